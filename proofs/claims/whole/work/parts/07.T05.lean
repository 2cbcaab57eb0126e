theorem T_X12_cloth_39 {G : gM} (ho : gOk G "WaxClothModel" cX12_cloth 5 (some .int) 3) {r0 : Int32} (hr0 : gv0 G = some (.int r0)) {σ0 : gS} (hs0 : gs0 G = σ0) : ∀ (n : Nat) (x2 : Int32) (σ : gS), F_X12_cloth_39 n x2 σ = some (r0, σ0) → gAt G 39 [(0, .ref (gad G 82)), (2, .int x2)] [] σ := by
  intro n
  induction n with
  | zero => intro x2 σ h; cases h
  | succ n ih =>
    intro x2 σ h
    unfold F_X12_cloth_39 at h
    refine a_iload_n ho dX12_cloth_39 rfl rfl 1 rfl ?_
    refine a_bipush (v := 32) ho dX12_cloth_40 rfl (by decide) ?_
    refine a_icmp_ge (tgt := 58) ho dX12_cloth_42 rfl rfl (fun hc42 => ?_) (fun hc42 => ?_)
    · replace h := if_t hc42 h
      refine a_aload_n ho dX12_cloth_58 rfl rfl 0 rfl ?_
      refine a_getR ho fl_X12_16 o_82 fr_10_2 dX12_cloth_59 rfl ?_
      refine a_iconst (v := 0) ho dX12_cloth_62 rfl (by decide) ?_
      refine a_aload_n ho dX12_cloth_63 rfl rfl 0 rfl ?_
      refine a_getR ho fl_X12_19 o_82 fr_10_3 dX12_cloth_64 rfl ?_
      refine a_bipush (v := 32) ho dX12_cloth_67 rfl (by decide) ?_
      refine a_bipush (v := 8) ho dX12_cloth_69 rfl (by decide) ?_
      obtain ⟨σ71, hq71, h⟩ := ob_el h
      refine a_callSv ho vy_X12_copies ml_X12_105 (C_X12_copies (isI_ln i_85) (isI_ln i_86) hq71) rfl rfl (by decide) (Nat.le_of_ble_eq_true rfl) dX12_cloth_71 rfl ?_
      refine a_aload_n ho dX12_cloth_74 rfl rfl 0 rfl ?_
      refine a_iconst (v := 0) ho dX12_cloth_75 rfl (by decide) ?_
      refine a_putI ho fp_X12_109 o_82 (ff_10_5 _ o_82) dX12_cloth_76 rfl ?_
      obtain ⟨σ76, hs76, h⟩ := bd_el h
      refine a_nmS hs76 ?_
      refine a_aload_n ho dX12_cloth_79 rfl rfl 0 rfl ?_
      refine a_iconst (v := 0) ho dX12_cloth_80 rfl (by decide) ?_
      refine a_putI ho fp_X12_112 o_82 (ff_10_7 _ o_82) dX12_cloth_81 rfl ?_
      obtain ⟨σ81, hs81, h⟩ := bd_el h
      refine a_nmS hs81 ?_
      refine a_aload_n ho dX12_cloth_84 rfl rfl 0 rfl ?_
      refine a_getR ho fl_X12_7 o_82 fr_10_0 dX12_cloth_85 rfl ?_
      refine a_iconst (v := 0) ho dX12_cloth_88 rfl (by decide) ?_
      refine a_iald ho i_83 (by decide) dX12_cloth_89 rfl ?_
      refine a_nmI (x := σ81.1 83 0) rfl ?_
      exact a_iret ho dX12_cloth_90 (rI hr0 (re_el h).1) (rS hs0 (re_el h).2)
    · replace h := if_f hc42 h
      refine a_aload_n ho dX12_cloth_45 rfl rfl 0 rfl ?_
      refine a_getR ho fl_X12_19 o_82 fr_10_3 dX12_cloth_46 rfl ?_
      refine a_iload_n ho dX12_cloth_49 rfl rfl 1 rfl ?_
      refine a_iconst (v := 0) ho dX12_cloth_50 rfl (by decide) ?_
      obtain ⟨hk51, h⟩ := ck_el h
      refine a_iast ho i_86 hk51 dX12_cloth_51 rfl ?_
      obtain ⟨σ51, hs51, h⟩ := bd_el h
      refine a_nmS hs51 ?_
      obtain ⟨x52, hb52, h⟩ := bd_el h
      refine a_iinc (L' := [(2, .int x52), (0, .ref (gad G 82))]) ho dX12_cloth_52 rfl 1 rfl hb52 (by decide) rfl ?_
      refine a_goto (tgt := 39) ho dX12_cloth_55 rfl ?_
      exact a_sub [1, 0] rfl (ih _ _ h)
theorem T_X12_cloth_0 {G : gM} (ho : gOk G "WaxClothModel" cX12_cloth 5 (some .int) 3) {r0 : Int32} (hr0 : gv0 G = some (.int r0)) {σ0 : gS} (hs0 : gs0 G = σ0) {σ : gS} (h : F_X12_cloth_0 σ = some (r0, σ0)) : gAt G 0 [(0, .ref (gad G 82))] [] σ := by
  unfold F_X12_cloth_0 at h
  refine a_aload_n ho dX12_cloth_0 rfl rfl 0 rfl ?_
  obtain ⟨r1, σ1, hq1, h⟩ := ob2_el h
  refine a_callVi ho vy_X12_reads ml_X12_102 o_82 (C_X12_reads hq1) rfl rfl (by decide) (Nat.le_of_ble_eq_true rfl) dX12_cloth_1 rfl ?_
  refine a_istore_n (L' := [(1, .int r1), (0, .ref (gad G 82))]) ho dX12_cloth_4 rfl rfl (by decide) rfl ?_
  refine a_aload_n ho dX12_cloth_5 rfl rfl 1 rfl ?_
  refine a_iconst (v := 0) ho dX12_cloth_6 rfl (by decide) ?_
  refine a_putI ho fp_X12_63 o_82 (ff_10_11 _ o_82) dX12_cloth_7 rfl ?_
  obtain ⟨σ7, hs7, h⟩ := bd_el h
  refine a_nmS hs7 ?_
  refine a_iload_n ho dX12_cloth_10 rfl rfl 0 rfl ?_
  refine a_if_ne (tgt := 22) ho dX12_cloth_11 rfl rfl (fun hc11 => ?_) (fun hc11 => ?_)
  · replace h := if_f hc11 h
    refine a_aload_n ho dX12_cloth_22 rfl rfl 1 rfl ?_
    refine a_getR ho fl_X12_13 o_82 fr_10_1 dX12_cloth_23 rfl ?_
    refine a_iconst (v := 0) ho dX12_cloth_26 rfl (by decide) ?_
    refine a_aload_n ho dX12_cloth_27 rfl rfl 1 rfl ?_
    refine a_getR ho fl_X12_7 o_82 fr_10_0 dX12_cloth_28 rfl ?_
    refine a_iconst (v := 0) ho dX12_cloth_31 rfl (by decide) ?_
    refine a_bipush (v := 26) ho dX12_cloth_32 rfl (by decide) ?_
    obtain ⟨σ34, hq34, h⟩ := ob_el h
    refine a_callSv ho vy_X12_copies ml_X12_105 (C_X12_copies (isI_ln i_84) (isI_ln i_83) hq34) rfl rfl (by decide) (Nat.le_of_ble_eq_true rfl) dX12_cloth_34 rfl ?_
    refine a_iconst (v := 0) ho dX12_cloth_37 rfl (by decide) ?_
    refine a_istore_n (L' := [(2, .int 0), (1, .int r1), (0, .ref (gad G 82))]) ho dX12_cloth_38 rfl rfl (by decide) rfl ?_
    exact a_sub [2, 0] rfl (T_X12_cloth_39 ho hr0 hs0 _ _ _ h)
  · replace h := if_t hc11 h
    refine a_bipush (v := (-100)) ho dX12_cloth_14 rfl (by decide) ?_
    refine a_aload_n ho dX12_cloth_16 rfl rfl 1 rfl ?_
    refine a_getI ho fl_X12_67 o_82 (ff_10_15 _ o_82) dX12_cloth_17 rfl ?_
    refine a_isub ho dX12_cloth_20 rfl ?_
    exact a_iret ho dX12_cloth_21 (rI hr0 (re_el h).1) (rS hs0 (re_el h).2)
theorem C_X12_cloth {l : Launch} {X : gX} {σ σ0 : gS} {r0 : Int32} (h : F_X12_cloth_0 σ = some (r0, σ0)) : gCt l X yX12_cloth (.code yX12_cloth cX12_cloth 3 (some .int)) 5 [.ref (X.2.2.1 82)] σ (some (.int r0)) σ0 :=
  gCt_of cX12_cloth (by decide) (Nat.le_of_ble_eq_true rfl) (fun G hl hX hv hs ho => by subst hl; subst hX; exact a_sub [0] rfl (T_X12_cloth_0 ho hv hs h))
theorem T_X12_isSquare_0 {G : gM} (ho : gOk G "WaxClothModel" cX12_isSquare 2 (some .boolean) 2) {r0 : Int32} (hr0 : gv0 G = some (.int r0)) {σ : gS} (hs0 : gs0 G = σ) {x1 : Int32} (h : F_X12_isSquare_0 x1 σ = some r0) : gAt G 0 [(0, .ref (gad G 82)), (1, .int x1)] [] σ := by
  unfold F_X12_isSquare_0 at h
  refine a_iload_n ho dX12_isSquare_0 rfl rfl 1 rfl ?_
  refine a_i2l ho dX12_isSquare_1 rfl ?_
  refine a_lconst (v := 0) ho dX12_isSquare_2 rfl (by decide) ?_
  refine a_aload_n ho dX12_isSquare_3 rfl rfl 0 rfl ?_
  refine a_getR ho fl_X12_7 o_82 fr_10_0 dX12_isSquare_4 rfl ?_
  refine a_iconst (v := 0) ho dX12_isSquare_7 rfl (by decide) ?_
  refine a_iald ho i_83 (by decide) dX12_isSquare_8 rfl ?_
  refine a_nmI (x := σ.1 83 0) rfl ?_
  refine a_iconst (v := 1) ho dX12_isSquare_9 rfl (by decide) ?_
  refine a_isub ho dX12_isSquare_10 rfl ?_
  refine a_i2l ho dX12_isSquare_11 rfl ?_
  refine a_callSi ho vy_X12_in ml_X12_59 (C_X12_in (Int32.toInt64 x1) 0 (Int32.toInt64 ((σ.1 83 0) - 1))) rfl rfl (by decide) (Nat.le_of_ble_eq_true rfl) dX12_isSquare_12 rfl ?_
  obtain ⟨hk15, h⟩ := ck_el h
  exact a_zret ho dX12_isSquare_15 (nb_n hk15) (rI hr0 (ro_el h)) hs0
theorem C_X12_isSquare {l : Launch} {X : gX} {σ : gS} {r0 : Int32} {a1 : Int32} (h : F_X12_isSquare_0 a1 σ = some r0) : gCt l X yX12_isSquare (.code yX12_isSquare cX12_isSquare 2 (some .boolean)) 2 [.ref (X.2.2.1 82), .int a1] σ (some (.int r0)) σ :=
  gCt_of cX12_isSquare (by decide) (Nat.le_of_ble_eq_true rfl) (fun G hl hX hv hs ho => by subst hl; subst hX; exact a_sub [0, 1] rfl (T_X12_isSquare_0 ho hv hs h))
theorem T_X12_isDye_0 {G : gM} (ho : gOk G "WaxClothModel" cX12_isDye 2 (some .boolean) 2) {r0 : Int32} (hr0 : gv0 G = some (.int r0)) {σ : gS} (hs0 : gs0 G = σ) {x1 : Int32} (h : F_X12_isDye_0 x1 σ = some r0) : gAt G 0 [(0, .ref (gad G 82)), (1, .int x1)] [] σ := by
  unfold F_X12_isDye_0 at h
  refine a_iload_n ho dX12_isDye_0 rfl rfl 1 rfl ?_
  refine a_i2l ho dX12_isDye_1 rfl ?_
  refine a_lconst (v := 0) ho dX12_isDye_2 rfl (by decide) ?_
  refine a_aload_n ho dX12_isDye_3 rfl rfl 0 rfl ?_
  refine a_getR ho fl_X12_7 o_82 fr_10_0 dX12_isDye_4 rfl ?_
  refine a_iconst (v := 1) ho dX12_isDye_7 rfl (by decide) ?_
  refine a_iald ho i_83 (by decide) dX12_isDye_8 rfl ?_
  refine a_nmI (x := σ.1 83 1) rfl ?_
  refine a_iconst (v := 1) ho dX12_isDye_9 rfl (by decide) ?_
  refine a_isub ho dX12_isDye_10 rfl ?_
  refine a_i2l ho dX12_isDye_11 rfl ?_
  refine a_callSi ho vy_X12_in ml_X12_59 (C_X12_in (Int32.toInt64 x1) 0 (Int32.toInt64 ((σ.1 83 1) - 1))) rfl rfl (by decide) (Nat.le_of_ble_eq_true rfl) dX12_isDye_12 rfl ?_
  obtain ⟨hk15, h⟩ := ck_el h
  exact a_zret ho dX12_isDye_15 (nb_n hk15) (rI hr0 (ro_el h)) hs0
theorem C_X12_isDye {l : Launch} {X : gX} {σ : gS} {r0 : Int32} {a1 : Int32} (h : F_X12_isDye_0 a1 σ = some r0) : gCt l X yX12_isDye (.code yX12_isDye cX12_isDye 2 (some .boolean)) 2 [.ref (X.2.2.1 82), .int a1] σ (some (.int r0)) σ :=
  gCt_of cX12_isDye (by decide) (Nat.le_of_ble_eq_true rfl) (fun G hl hX hv hs ho => by subst hl; subst hX; exact a_sub [0, 1] rfl (T_X12_isDye_0 ho hv hs h))
theorem T_X12_hueOf_84 {G : gM} (ho : gOk G "WaxClothModel" cX12_hueOf 1 (some .int) 6) {r0 : Int32} (hr0 : gv0 G = some (.int r0)) {σ : gS} (hs0 : gs0 G = σ) {c0 : Nat} {g44 : Int32 → Int32 → Int32 → Int32 → gS → Option Int32} (hg44 : ∀ (x1 : Int32) (x2 : Int32) (x3 : Int32) (x4 : Int32), g44 x1 x2 x3 x4 σ = some r0 → gAt G 44 [(0, .ref (gad G c0)), (1, .int x1), (2, .int x2), (3, .int x3), (4, .int x4)] [] σ) (hc0 : isI c0 40) {x1 : Int32} {x2 : Int32} {x4 : Int32} {y0 : Int32} {y1 : Int32} (h : F_X12_hueOf_84 g44 c0 x1 x2 x4 y0 y1 σ = some r0) : gAt G 84 [(0, .ref (gad G c0)), (1, .int x1), (2, .int x2), (4, .int x4)] [.int y0, .int y1] σ := by
  unfold F_X12_hueOf_84 at h
  refine a_ior ho dX12_hueOf_84 rfl ?_
  obtain ⟨x85, hb85, h⟩ := bd_el h
  refine a_nmI hb85 ?_
  refine a_istore_n (L' := [(3, .int x85), (0, .ref (gad G c0)), (1, .int x1), (2, .int x2), (4, .int x4)]) ho dX12_hueOf_85 rfl rfl (by decide) rfl ?_
  obtain ⟨x86, hb86, h⟩ := bd_el h
  refine a_iinc (L' := [(4, .int x86), (3, .int x85), (0, .ref (gad G c0)), (1, .int x1), (2, .int x2)]) ho dX12_hueOf_86 rfl 4 rfl hb86 (by decide) rfl ?_
  refine a_goto (tgt := 44) ho dX12_hueOf_89 rfl ?_
  exact a_sub [2, 3, 4, 1, 0] rfl (hg44 _ _ _ _ h)
theorem T_X12_hueOf_83 {G : gM} (ho : gOk G "WaxClothModel" cX12_hueOf 1 (some .int) 6) {r0 : Int32} (hr0 : gv0 G = some (.int r0)) {σ : gS} (hs0 : gs0 G = σ) {c0 : Nat} {g44 : Int32 → Int32 → Int32 → Int32 → gS → Option Int32} (hg44 : ∀ (x1 : Int32) (x2 : Int32) (x3 : Int32) (x4 : Int32), g44 x1 x2 x3 x4 σ = some r0 → gAt G 44 [(0, .ref (gad G c0)), (1, .int x1), (2, .int x2), (3, .int x3), (4, .int x4)] [] σ) (hc0 : isI c0 40) {x1 : Int32} {x2 : Int32} {x4 : Int32} {y0 : Int32} (h : F_X12_hueOf_83 g44 c0 x1 x2 x4 y0 σ = some r0) : gAt G 83 [(0, .ref (gad G c0)), (1, .int x1), (2, .int x2), (4, .int x4)] [.int y0] σ := by
  unfold F_X12_hueOf_83 at h
  refine a_iconst (v := 0) ho dX12_hueOf_83 rfl (by decide) ?_
  exact a_sub [0, 1, 2, 3] rfl (T_X12_hueOf_84 ho hr0 hs0 hg44 hc0 h)
theorem T_X12_hueOf_44 {G : gM} (ho : gOk G "WaxClothModel" cX12_hueOf 1 (some .int) 6) {r0 : Int32} (hr0 : gv0 G = some (.int r0)) {σ : gS} (hs0 : gs0 G = σ) {c0 : Nat} (hc0 : isI c0 40) : ∀ (n : Nat) (x1 : Int32) (x2 : Int32) (x3 : Int32) (x4 : Int32), F_X12_hueOf_44 c0 n x1 x2 x3 x4 σ = some r0 → gAt G 44 [(0, .ref (gad G c0)), (1, .int x1), (2, .int x2), (3, .int x3), (4, .int x4)] [] σ := by
  intro n
  induction n with
  | zero => intro x1 x2 x3 x4 h; cases h
  | succ n ih =>
    intro x1 x2 x3 x4 h
    unfold F_X12_hueOf_44 at h
    refine a_iload ho dX12_hueOf_44 rfl 4 rfl ?_
    refine a_iconst (v := 3) ho dX12_hueOf_46 rfl (by decide) ?_
    refine a_icmp_ge (tgt := 92) ho dX12_hueOf_47 rfl rfl (fun hc47 => ?_) (fun hc47 => ?_)
    · replace h := if_t hc47 h
      refine a_iload_n ho dX12_hueOf_92 rfl rfl 3 rfl ?_
      exact a_iret ho dX12_hueOf_93 (rI hr0 (ro_el h)) hs0
    · replace h := if_f hc47 h
      refine a_aload_n ho dX12_hueOf_50 rfl rfl 0 rfl ?_
      refine a_iconst (v := 0) ho dX12_hueOf_51 rfl (by decide) ?_
      refine a_iconst (v := 3) ho dX12_hueOf_52 rfl (by decide) ?_
      refine a_iload_n ho dX12_hueOf_53 rfl rfl 1 rfl ?_
      refine a_imul ho dX12_hueOf_54 rfl ?_
      refine a_iadd ho dX12_hueOf_55 rfl ?_
      refine a_iload ho dX12_hueOf_56 rfl 4 rfl ?_
      refine a_iadd ho dX12_hueOf_58 rfl ?_
      obtain ⟨hk59, h⟩ := ck_el h
      refine a_iald ho hc0 hk59 dX12_hueOf_59 rfl ?_
      obtain ⟨x60, hb60, h⟩ := bd_el h
      refine a_nmI hb60 ?_
      refine a_istore (L' := [(5, .int x60), (0, .ref (gad G c0)), (1, .int x1), (2, .int x2), (3, .int x3), (4, .int x4)]) ho dX12_hueOf_60 rfl (by decide) rfl ?_
      refine a_iload_n ho dX12_hueOf_62 rfl rfl 4 rfl ?_
      refine a_iload ho dX12_hueOf_63 rfl 0 rfl ?_
      refine a_if_le (tgt := 83) ho dX12_hueOf_65 rfl rfl (fun hc65 => ?_) (fun hc65 => ?_)
      · replace h := if_t hc65 h
        exact a_sub [1, 2, 3, 5] rfl (T_X12_hueOf_83 ho hr0 hs0 ih hc0 h)
      · replace h := if_f hc65 h
        refine a_iconst (v := 2) ho dX12_hueOf_68 rfl (by decide) ?_
        refine a_iload ho dX12_hueOf_69 rfl 0 rfl ?_
        refine a_imul ho dX12_hueOf_71 rfl ?_
        refine a_iload_n ho dX12_hueOf_72 rfl rfl 3 rfl ?_
        refine a_icmp_lt (tgt := 83) ho dX12_hueOf_73 rfl rfl (fun hc73 => ?_) (fun hc73 => ?_)
        · replace h := if_t hc73 h
          exact a_sub [1, 2, 3, 5] rfl (T_X12_hueOf_83 ho hr0 hs0 ih hc0 h)
        · replace h := if_f hc73 h
          refine a_iconst (v := 1) ho dX12_hueOf_76 rfl (by decide) ?_
          refine a_iload ho dX12_hueOf_77 rfl 5 rfl ?_
          refine a_ishl ho dX12_hueOf_79 rfl ?_
          refine a_goto (tgt := 84) ho dX12_hueOf_80 rfl ?_
          exact a_sub [1, 2, 3, 5] rfl (T_X12_hueOf_84 ho hr0 hs0 ih hc0 h)
theorem T_X12_hueOf_32 {G : gM} (ho : gOk G "WaxClothModel" cX12_hueOf 1 (some .int) 6) {r0 : Int32} (hr0 : gv0 G = some (.int r0)) {σ : gS} (hs0 : gs0 G = σ) {c0 : Nat} {g4 : Int32 → Int32 → Int32 → gS → Option Int32} (hg4 : ∀ (x1 : Int32) (x2 : Int32) (x3 : Int32), g4 x1 x2 x3 σ = some r0 → gAt G 4 [(0, .ref (gad G c0)), (1, .int x1), (2, .int x2), (3, .int x3)] [] σ) (hc0 : isI c0 40) {x1 : Int32} {x3 : Int32} {y0 : Int32} (h : F_X12_hueOf_32 g4 c0 x1 x3 y0 σ = some r0) : gAt G 32 [(0, .ref (gad G c0)), (1, .int x1), (3, .int x3)] [.int y0] σ := by
  unfold F_X12_hueOf_32 at h
  refine a_istore_n (L' := [(2, .int y0), (0, .ref (gad G c0)), (1, .int x1), (3, .int x3)]) ho dX12_hueOf_32 rfl rfl (by decide) rfl ?_
  obtain ⟨x33, hb33, h⟩ := bd_el h
  refine a_iinc (L' := [(3, .int x33), (2, .int y0), (0, .ref (gad G c0)), (1, .int x1)]) ho dX12_hueOf_33 rfl 3 rfl hb33 (by decide) rfl ?_
  refine a_goto (tgt := 4) ho dX12_hueOf_36 rfl ?_
  exact a_sub [2, 3, 1, 0] rfl (hg4 _ _ _ h)
theorem T_X12_hueOf_4 {G : gM} (ho : gOk G "WaxClothModel" cX12_hueOf 1 (some .int) 6) {r0 : Int32} (hr0 : gv0 G = some (.int r0)) {σ : gS} (hs0 : gs0 G = σ) {c0 : Nat} (hc0 : isI c0 40) : ∀ (n : Nat) (x1 : Int32) (x2 : Int32) (x3 : Int32), F_X12_hueOf_4 c0 n x1 x2 x3 σ = some r0 → gAt G 4 [(0, .ref (gad G c0)), (1, .int x1), (2, .int x2), (3, .int x3)] [] σ := by
  intro n
  induction n with
  | zero => intro x1 x2 x3 h; cases h
  | succ n ih =>
    intro x1 x2 x3 h
    unfold F_X12_hueOf_4 at h
    refine a_iload_n ho dX12_hueOf_4 rfl rfl 3 rfl ?_
    refine a_iconst (v := 3) ho dX12_hueOf_5 rfl (by decide) ?_
    refine a_icmp_ge (tgt := 39) ho dX12_hueOf_6 rfl rfl (fun hc6 => ?_) (fun hc6 => ?_)
    · replace h := if_t hc6 h
      refine a_iconst (v := 0) ho dX12_hueOf_39 rfl (by decide) ?_
      refine a_istore_n (L' := [(3, .int 0), (0, .ref (gad G c0)), (1, .int x1), (2, .int x2)]) ho dX12_hueOf_40 rfl rfl (by decide) rfl ?_
      refine a_iconst (v := 0) ho dX12_hueOf_41 rfl (by decide) ?_
      refine a_istore (L' := [(4, .int 0), (3, .int 0), (0, .ref (gad G c0)), (1, .int x1), (2, .int x2)]) ho dX12_hueOf_42 rfl (by decide) rfl ?_
      exact a_sub [2, 3, 4, 1, 0] rfl (T_X12_hueOf_44 ho hr0 hs0 hc0 _ _ _ _ _ h)
    · replace h := if_f hc6 h
      refine a_aload_n ho dX12_hueOf_9 rfl rfl 0 rfl ?_
      refine a_iconst (v := 0) ho dX12_hueOf_10 rfl (by decide) ?_
      refine a_iconst (v := 3) ho dX12_hueOf_11 rfl (by decide) ?_
      refine a_iload_n ho dX12_hueOf_12 rfl rfl 1 rfl ?_
      refine a_imul ho dX12_hueOf_13 rfl ?_
      refine a_iadd ho dX12_hueOf_14 rfl ?_
      refine a_iload_n ho dX12_hueOf_15 rfl rfl 3 rfl ?_
      refine a_iadd ho dX12_hueOf_16 rfl ?_
      obtain ⟨hk17, h⟩ := ck_el h
      refine a_iald ho hc0 hk17 dX12_hueOf_17 rfl ?_
      obtain ⟨x18, hb18, h⟩ := bd_el h
      refine a_nmI hb18 ?_
      refine a_istore (L' := [(4, .int x18), (0, .ref (gad G c0)), (1, .int x1), (2, .int x2), (3, .int x3)]) ho dX12_hueOf_18 rfl (by decide) rfl ?_
      refine a_iload ho dX12_hueOf_20 rfl 0 rfl ?_
      refine a_iload_n ho dX12_hueOf_22 rfl rfl 3 rfl ?_
      refine a_icmp_le (tgt := 31) ho dX12_hueOf_23 rfl rfl (fun hc23 => ?_) (fun hc23 => ?_)
      · replace h := if_t hc23 h
        refine a_iload_n ho dX12_hueOf_31 rfl rfl 3 rfl ?_
        exact a_sub [1, 2, 4] rfl (T_X12_hueOf_32 ho hr0 hs0 ih hc0 h)
      · replace h := if_f hc23 h
        refine a_iload ho dX12_hueOf_26 rfl 0 rfl ?_
        refine a_goto (tgt := 32) ho dX12_hueOf_28 rfl ?_
        exact a_sub [1, 2, 4] rfl (T_X12_hueOf_32 ho hr0 hs0 ih hc0 h)
theorem T_X12_hueOf_0 {G : gM} (ho : gOk G "WaxClothModel" cX12_hueOf 1 (some .int) 6) {r0 : Int32} (hr0 : gv0 G = some (.int r0)) {σ : gS} (hs0 : gs0 G = σ) {c0 : Nat} (hc0 : isI c0 40) {x1 : Int32} (h : F_X12_hueOf_0 c0 x1 σ = some r0) : gAt G 0 [(0, .ref (gad G c0)), (1, .int x1)] [] σ := by
  unfold F_X12_hueOf_0 at h
  refine a_iconst (v := 0) ho dX12_hueOf_0 rfl (by decide) ?_
  refine a_istore_n (L' := [(2, .int 0), (0, .ref (gad G c0)), (1, .int x1)]) ho dX12_hueOf_1 rfl rfl (by decide) rfl ?_
  refine a_iconst (v := 0) ho dX12_hueOf_2 rfl (by decide) ?_
  refine a_istore_n (L' := [(3, .int 0), (2, .int 0), (0, .ref (gad G c0)), (1, .int x1)]) ho dX12_hueOf_3 rfl rfl (by decide) rfl ?_
  exact a_sub [2, 3, 1, 0] rfl (T_X12_hueOf_4 ho hr0 hs0 hc0 _ _ _ _ h)
theorem C_X12_hueOf {l : Launch} {X : gX} {σ : gS} {r0 : Int32} {c0 : Nat} (hc0 : isI c0 40) {a1 : Int32} (h : F_X12_hueOf_0 c0 a1 σ = some r0) : gCt l X yX12_hueOf (.code yX12_hueOf cX12_hueOf 6 (some .int)) 1 [.ref (X.2.2.1 c0), .int a1] σ (some (.int r0)) σ :=
  gCt_of cX12_hueOf (by decide) (Nat.le_of_ble_eq_true rfl) (fun G hl hX hv hs ho => by subst hl; subst hX; exact a_sub [0, 1] rfl (T_X12_hueOf_0 ho hv hs hc0 h))
theorem T_X12_darkOf_0 {G : gM} (ho : gOk G "WaxClothModel" cX12_darkOf 1 (some .int) 2) {r0 : Int32} (hr0 : gv0 G = some (.int r0)) {σ : gS} (hs0 : gs0 G = σ) {c0 : Nat} (hc0 : isI c0 40) {x1 : Int32} (h : F_X12_darkOf_0 c0 x1 σ = some r0) : gAt G 0 [(0, .ref (gad G c0)), (1, .int x1)] [] σ := by
  unfold F_X12_darkOf_0 at h
  refine a_aload_n ho dX12_darkOf_0 rfl rfl 0 rfl ?_
  refine a_iconst (v := 0) ho dX12_darkOf_1 rfl (by decide) ?_
  refine a_iconst (v := 3) ho dX12_darkOf_2 rfl (by decide) ?_
  refine a_iload_n ho dX12_darkOf_3 rfl rfl 1 rfl ?_
  refine a_imul ho dX12_darkOf_4 rfl ?_
  refine a_iadd ho dX12_darkOf_5 rfl ?_
  obtain ⟨hk6, h⟩ := ck_el h
  refine a_iald ho hc0 hk6 dX12_darkOf_6 rfl ?_
  refine a_aload_n ho dX12_darkOf_7 rfl rfl 0 rfl ?_
  refine a_iconst (v := 0) ho dX12_darkOf_8 rfl (by decide) ?_
  refine a_iconst (v := 3) ho dX12_darkOf_9 rfl (by decide) ?_
  refine a_iload_n ho dX12_darkOf_10 rfl rfl 1 rfl ?_
  refine a_imul ho dX12_darkOf_11 rfl ?_
  refine a_iadd ho dX12_darkOf_12 rfl ?_
  refine a_iconst (v := 1) ho dX12_darkOf_13 rfl (by decide) ?_
  refine a_iadd ho dX12_darkOf_14 rfl ?_
  obtain ⟨hk15, h⟩ := ck_el h
  refine a_iald ho hc0 hk15 dX12_darkOf_15 rfl ?_
  refine a_iadd ho dX12_darkOf_16 rfl ?_
  refine a_aload_n ho dX12_darkOf_17 rfl rfl 0 rfl ?_
  refine a_iconst (v := 0) ho dX12_darkOf_18 rfl (by decide) ?_
  refine a_iconst (v := 3) ho dX12_darkOf_19 rfl (by decide) ?_
  refine a_iload_n ho dX12_darkOf_20 rfl rfl 1 rfl ?_
  refine a_imul ho dX12_darkOf_21 rfl ?_
  refine a_iadd ho dX12_darkOf_22 rfl ?_
  refine a_iconst (v := 2) ho dX12_darkOf_23 rfl (by decide) ?_
  refine a_iadd ho dX12_darkOf_24 rfl ?_
  obtain ⟨hk25, h⟩ := ck_el h
  refine a_iald ho hc0 hk25 dX12_darkOf_25 rfl ?_
  refine a_iadd ho dX12_darkOf_26 rfl ?_
  exact a_iret ho dX12_darkOf_27 (rI hr0 (ro_el h)) hs0
theorem C_X12_darkOf {l : Launch} {X : gX} {σ : gS} {r0 : Int32} {c0 : Nat} (hc0 : isI c0 40) {a1 : Int32} (h : F_X12_darkOf_0 c0 a1 σ = some r0) : gCt l X yX12_darkOf (.code yX12_darkOf cX12_darkOf 2 (some .int)) 1 [.ref (X.2.2.1 c0), .int a1] σ (some (.int r0)) σ :=
  gCt_of cX12_darkOf (by decide) (Nat.le_of_ble_eq_true rfl) (fun G hl hX hv hs ho => by subst hl; subst hX; exact a_sub [0, 1] rfl (T_X12_darkOf_0 ho hv hs hc0 h))
theorem T_X12_isRight_0 {G : gM} (ho : gOk G "WaxClothModel" cX12_isRight 2 (some .boolean) 2) {r0 : Int32} (hr0 : gv0 G = some (.int r0)) {σ : gS} (hs0 : gs0 G = σ) {c0 : Nat} (hc0 : isI c0 40) {x1 : Int32} (h : F_X12_isRight_0 c0 x1 σ = some r0) : gAt G 0 [(0, .ref (gad G c0)), (1, .int x1)] [] σ := by
  unfold F_X12_isRight_0 at h
  refine a_aload_n ho dX12_isRight_0 rfl rfl 0 rfl ?_
  refine a_iload_n ho dX12_isRight_1 rfl rfl 1 rfl ?_
  obtain ⟨r2, hq2, h⟩ := ob_el h
  refine a_callSi ho vy_X12_hueOf ml_X12_115 (C_X12_hueOf hc0 hq2) rfl rfl (by decide) (Nat.le_of_ble_eq_true rfl) dX12_isRight_2 rfl ?_
  refine a_aload_n ho dX12_isRight_5 rfl rfl 0 rfl ?_
  refine a_bipush (v := 32) ho dX12_isRight_6 rfl (by decide) ?_
  refine a_iload_n ho dX12_isRight_8 rfl rfl 1 rfl ?_
  refine a_iadd ho dX12_isRight_9 rfl ?_
  obtain ⟨hk10, h⟩ := ck_el h
  refine a_iald ho hc0 hk10 dX12_isRight_10 rfl ?_
  refine a_icmp_ne (tgt := 18) ho dX12_isRight_11 rfl rfl (fun hc11 => ?_) (fun hc11 => ?_)
  · replace h := if_f hc11 h
    refine a_iconst (v := 0) ho dX12_isRight_18 rfl (by decide) ?_
    exact a_zret ho dX12_isRight_19 rfl (rI hr0 (ro_el h)) hs0
  · replace h := if_t hc11 h
    refine a_iconst (v := 1) ho dX12_isRight_14 rfl (by decide) ?_
    refine a_goto (tgt := 19) ho dX12_isRight_15 rfl ?_
    exact a_zret ho dX12_isRight_19 rfl (rI hr0 (ro_el h)) hs0
theorem C_X12_isRight {l : Launch} {X : gX} {σ : gS} {r0 : Int32} {c0 : Nat} (hc0 : isI c0 40) {a1 : Int32} (h : F_X12_isRight_0 c0 a1 σ = some r0) : gCt l X yX12_isRight (.code yX12_isRight cX12_isRight 2 (some .boolean)) 2 [.ref (X.2.2.1 c0), .int a1] σ (some (.int r0)) σ :=
  gCt_of cX12_isRight (by decide) (Nat.le_of_ble_eq_true rfl) (fun G hl hX hv hs ho => by subst hl; subst hX; exact a_sub [0, 1] rfl (T_X12_isRight_0 ho hv hs hc0 h))
theorem T_X12_rightOn_30 {G : gM} (ho : gOk G "WaxClothModel" cX12_rightOn 3 (some .int) 4) {r0 : Int32} (hr0 : gv0 G = some (.int r0)) {σ : gS} (hs0 : gs0 G = σ) {c1 : Nat} {g4 : Int32 → Int32 → gS → Option Int32} (hg4 : ∀ (x2 : Int32) (x3 : Int32), g4 x2 x3 σ = some r0 → gAt G 4 [(0, .ref (gad G 82)), (1, .ref (gad G c1)), (2, .int x2), (3, .int x3)] [] σ) (hc1 : isI c1 40) {x3 : Int32} {y0 : Int32} {y1 : Int32} (h : F_X12_rightOn_30 g4 c1 x3 y0 y1 σ = some r0) : gAt G 30 [(0, .ref (gad G 82)), (1, .ref (gad G c1)), (3, .int x3)] [.int y0, .int y1] σ := by
  unfold F_X12_rightOn_30 at h
  refine a_ior ho dX12_rightOn_30 rfl ?_
  obtain ⟨x31, hb31, h⟩ := bd_el h
  refine a_nmI hb31 ?_
  refine a_istore_n (L' := [(2, .int x31), (0, .ref (gad G 82)), (1, .ref (gad G c1)), (3, .int x3)]) ho dX12_rightOn_31 rfl rfl (by decide) rfl ?_
  obtain ⟨x32, hb32, h⟩ := bd_el h
  refine a_iinc (L' := [(3, .int x32), (2, .int x31), (0, .ref (gad G 82)), (1, .ref (gad G c1))]) ho dX12_rightOn_32 rfl 3 rfl hb32 (by decide) rfl ?_
  refine a_goto (tgt := 4) ho dX12_rightOn_35 rfl ?_
  exact a_sub [2, 3, 1, 0] rfl (hg4 _ _ h)
theorem T_X12_rightOn_4 {G : gM} (ho : gOk G "WaxClothModel" cX12_rightOn 3 (some .int) 4) {r0 : Int32} (hr0 : gv0 G = some (.int r0)) {σ : gS} (hs0 : gs0 G = σ) {c1 : Nat} (hc1 : isI c1 40) : ∀ (n : Nat) (x2 : Int32) (x3 : Int32), F_X12_rightOn_4 c1 n x2 x3 σ = some r0 → gAt G 4 [(0, .ref (gad G 82)), (1, .ref (gad G c1)), (2, .int x2), (3, .int x3)] [] σ := by
  intro n
  induction n with
  | zero => intro x2 x3 h; cases h
  | succ n ih =>
    intro x2 x3 h
    unfold F_X12_rightOn_4 at h
    refine a_iload_n ho dX12_rightOn_4 rfl rfl 3 rfl ?_
    refine a_aload_n ho dX12_rightOn_5 rfl rfl 0 rfl ?_
    refine a_getR ho fl_X12_7 o_82 fr_10_0 dX12_rightOn_6 rfl ?_
    refine a_iconst (v := 0) ho dX12_rightOn_9 rfl (by decide) ?_
    refine a_iald ho i_83 (by decide) dX12_rightOn_10 rfl ?_
    refine a_nmI (x := σ.1 83 0) rfl ?_
    refine a_icmp_ge (tgt := 38) ho dX12_rightOn_11 rfl rfl (fun hc11 => ?_) (fun hc11 => ?_)
    · replace h := if_t hc11 h
      refine a_iload_n ho dX12_rightOn_38 rfl rfl 2 rfl ?_
      exact a_iret ho dX12_rightOn_39 (rI hr0 (ro_el h)) hs0
    · replace h := if_f hc11 h
      refine a_iload_n ho dX12_rightOn_14 rfl rfl 2 rfl ?_
      refine a_aload_n ho dX12_rightOn_15 rfl rfl 1 rfl ?_
      refine a_iload_n ho dX12_rightOn_16 rfl rfl 3 rfl ?_
      obtain ⟨r17, hq17, h⟩ := ob_el h
      refine a_callSi ho vy_X12_isRight ml_X12_119 (C_X12_isRight hc1 hq17) rfl rfl (by decide) (Nat.le_of_ble_eq_true rfl) dX12_rightOn_17 rfl ?_
      refine a_if_eq (tgt := 29) ho dX12_rightOn_20 rfl rfl (fun hc20 => ?_) (fun hc20 => ?_)
      · replace h := if_t hc20 h
        refine a_iconst (v := 0) ho dX12_rightOn_29 rfl (by decide) ?_
        exact a_sub [0, 1, 3] rfl (T_X12_rightOn_30 ho hr0 hs0 ih hc1 h)
      · replace h := if_f hc20 h
        refine a_iconst (v := 1) ho dX12_rightOn_23 rfl (by decide) ?_
        refine a_iload_n ho dX12_rightOn_24 rfl rfl 3 rfl ?_
        refine a_ishl ho dX12_rightOn_25 rfl ?_
        refine a_goto (tgt := 30) ho dX12_rightOn_26 rfl ?_
        exact a_sub [0, 1, 3] rfl (T_X12_rightOn_30 ho hr0 hs0 ih hc1 h)
theorem T_X12_rightOn_0 {G : gM} (ho : gOk G "WaxClothModel" cX12_rightOn 3 (some .int) 4) {r0 : Int32} (hr0 : gv0 G = some (.int r0)) {σ : gS} (hs0 : gs0 G = σ) {c1 : Nat} (hc1 : isI c1 40) (h : F_X12_rightOn_0 c1 σ = some r0) : gAt G 0 [(0, .ref (gad G 82)), (1, .ref (gad G c1))] [] σ := by
  unfold F_X12_rightOn_0 at h
  refine a_iconst (v := 0) ho dX12_rightOn_0 rfl (by decide) ?_
  refine a_istore_n (L' := [(2, .int 0), (0, .ref (gad G 82)), (1, .ref (gad G c1))]) ho dX12_rightOn_1 rfl rfl (by decide) rfl ?_
  refine a_iconst (v := 0) ho dX12_rightOn_2 rfl (by decide) ?_
  refine a_istore_n (L' := [(3, .int 0), (2, .int 0), (0, .ref (gad G 82)), (1, .ref (gad G c1))]) ho dX12_rightOn_3 rfl rfl (by decide) rfl ?_
  exact a_sub [2, 3, 1, 0] rfl (T_X12_rightOn_4 ho hr0 hs0 hc1 _ _ _ h)
theorem C_X12_rightOn {l : Launch} {X : gX} {σ : gS} {r0 : Int32} {c1 : Nat} (hc1 : isI c1 40) (h : F_X12_rightOn_0 c1 σ = some r0) : gCt l X yX12_rightOn (.code yX12_rightOn cX12_rightOn 4 (some .int)) 3 [.ref (X.2.2.1 82), .ref (X.2.2.1 c1)] σ (some (.int r0)) σ :=
  gCt_of cX12_rightOn (by decide) (Nat.le_of_ble_eq_true rfl) (fun G hl hX hv hs ho => by subst hl; subst hX; exact a_sub [0, 1] rfl (T_X12_rightOn_0 ho hv hs hc1 h))
theorem T_X12_darkAll_4 {G : gM} (ho : gOk G "WaxClothModel" cX12_darkAll 2 (some .int) 4) {r0 : Int32} (hr0 : gv0 G = some (.int r0)) {σ : gS} (hs0 : gs0 G = σ) {c1 : Nat} (hc1 : isI c1 40) : ∀ (n : Nat) (x2 : Int32) (x3 : Int32), F_X12_darkAll_4 c1 n x2 x3 σ = some r0 → gAt G 4 [(0, .ref (gad G 82)), (1, .ref (gad G c1)), (2, .int x2), (3, .int x3)] [] σ := by
  intro n
  induction n with
  | zero => intro x2 x3 h; cases h
  | succ n ih =>
    intro x2 x3 h
    unfold F_X12_darkAll_4 at h
    refine a_iload_n ho dX12_darkAll_4 rfl rfl 3 rfl ?_
    refine a_aload_n ho dX12_darkAll_5 rfl rfl 0 rfl ?_
    refine a_getR ho fl_X12_7 o_82 fr_10_0 dX12_darkAll_6 rfl ?_
    refine a_iconst (v := 0) ho dX12_darkAll_9 rfl (by decide) ?_
    refine a_iald ho i_83 (by decide) dX12_darkAll_10 rfl ?_
    refine a_nmI (x := σ.1 83 0) rfl ?_
    refine a_icmp_ge (tgt := 28) ho dX12_darkAll_11 rfl rfl (fun hc11 => ?_) (fun hc11 => ?_)
    · replace h := if_t hc11 h
      refine a_iload_n ho dX12_darkAll_28 rfl rfl 2 rfl ?_
      exact a_iret ho dX12_darkAll_29 (rI hr0 (ro_el h)) hs0
    · replace h := if_f hc11 h
      refine a_iload_n ho dX12_darkAll_14 rfl rfl 2 rfl ?_
      refine a_aload_n ho dX12_darkAll_15 rfl rfl 1 rfl ?_
      refine a_iload_n ho dX12_darkAll_16 rfl rfl 3 rfl ?_
      obtain ⟨r17, hq17, h⟩ := ob_el h
      refine a_callSi ho vy_X12_darkOf ml_X12_123 (C_X12_darkOf hc1 hq17) rfl rfl (by decide) (Nat.le_of_ble_eq_true rfl) dX12_darkAll_17 rfl ?_
      refine a_iadd ho dX12_darkAll_20 rfl ?_
      obtain ⟨x21, hb21, h⟩ := bd_el h
      refine a_nmI hb21 ?_
      refine a_istore_n (L' := [(2, .int x21), (0, .ref (gad G 82)), (1, .ref (gad G c1)), (3, .int x3)]) ho dX12_darkAll_21 rfl rfl (by decide) rfl ?_
      obtain ⟨x22, hb22, h⟩ := bd_el h
      refine a_iinc (L' := [(3, .int x22), (2, .int x21), (0, .ref (gad G 82)), (1, .ref (gad G c1))]) ho dX12_darkAll_22 rfl 3 rfl hb22 (by decide) rfl ?_
      refine a_goto (tgt := 4) ho dX12_darkAll_25 rfl ?_
      exact a_sub [2, 3, 1, 0] rfl (ih _ _ h)
theorem T_X12_darkAll_0 {G : gM} (ho : gOk G "WaxClothModel" cX12_darkAll 2 (some .int) 4) {r0 : Int32} (hr0 : gv0 G = some (.int r0)) {σ : gS} (hs0 : gs0 G = σ) {c1 : Nat} (hc1 : isI c1 40) (h : F_X12_darkAll_0 c1 σ = some r0) : gAt G 0 [(0, .ref (gad G 82)), (1, .ref (gad G c1))] [] σ := by
  unfold F_X12_darkAll_0 at h
  refine a_iconst (v := 0) ho dX12_darkAll_0 rfl (by decide) ?_
  refine a_istore_n (L' := [(2, .int 0), (0, .ref (gad G 82)), (1, .ref (gad G c1))]) ho dX12_darkAll_1 rfl rfl (by decide) rfl ?_
  refine a_iconst (v := 0) ho dX12_darkAll_2 rfl (by decide) ?_
  refine a_istore_n (L' := [(3, .int 0), (2, .int 0), (0, .ref (gad G 82)), (1, .ref (gad G c1))]) ho dX12_darkAll_3 rfl rfl (by decide) rfl ?_
  exact a_sub [2, 3, 1, 0] rfl (T_X12_darkAll_4 ho hr0 hs0 hc1 _ _ _ h)
theorem C_X12_darkAll {l : Launch} {X : gX} {σ : gS} {r0 : Int32} {c1 : Nat} (hc1 : isI c1 40) (h : F_X12_darkAll_0 c1 σ = some r0) : gCt l X yX12_darkAll (.code yX12_darkAll cX12_darkAll 4 (some .int)) 2 [.ref (X.2.2.1 82), .ref (X.2.2.1 c1)] σ (some (.int r0)) σ :=
  gCt_of cX12_darkAll (by decide) (Nat.le_of_ble_eq_true rfl) (fun G hl hX hv hs ho => by subst hl; subst hX; exact a_sub [0, 1] rfl (T_X12_darkAll_0 ho hv hs hc1 h))
theorem T_X12_takenBy_73 {G : gM} (ho : gOk G "WaxClothModel" cX12_takenBy 2 (some .int) 3) {r0 : Int32} (hr0 : gv0 G = some (.int r0)) {σ : gS} (hs0 : gs0 G = σ) (h : F_X12_takenBy_73 = some r0) : gAt G 73 [] [] σ := by
  unfold F_X12_takenBy_73 at h
  refine a_iconst (v := 0) ho dX12_takenBy_73 rfl (by decide) ?_
  refine a_goto (tgt := 82) ho dX12_takenBy_74 rfl ?_
  exact a_iret ho dX12_takenBy_82 (rI hr0 (ro_el h)) hs0
theorem T_X12_takenBy_0 {G : gM} (ho : gOk G "WaxClothModel" cX12_takenBy 2 (some .int) 3) {r0 : Int32} (hr0 : gv0 G = some (.int r0)) {σ : gS} (hs0 : gs0 G = σ) {x0 : Int32} {x1 : Int32} {x2 : Int32} (h : F_X12_takenBy_0 x0 x1 x2 = some r0) : gAt G 0 [(0, .int x0), (1, .int x1), (2, .int x2)] [] σ := by
  unfold F_X12_takenBy_0 at h
  refine a_iload_n ho dX12_takenBy_0 rfl rfl 0 rfl ?_
  by_cases hw1_2 : x0 = 2
  · replace h := if_t hw1_2 h
    refine a_tin (tgt := 32) ho 2 hw1_2 dX12_takenBy_1 (by decide) (by decide) rfl rfl ?_
    refine a_iload_n ho dX12_takenBy_32 rfl rfl 2 rfl ?_
    refine a_iconst (v := 2) ho dX12_takenBy_33 rfl (by decide) ?_
    refine a_callSi ho vy_X12_less ml_X12_126 (C_X12_less x2 2) rfl rfl (by decide) (Nat.le_of_ble_eq_true rfl) dX12_takenBy_34 rfl ?_
    exact a_iret ho dX12_takenBy_37 (rI hr0 (ro_el h)) hs0
  replace h := if_f hw1_2 h
  by_cases hw1_3 : x0 = 3
  · replace h := if_t hw1_3 h
    refine a_tin (tgt := 38) ho 3 hw1_3 dX12_takenBy_1 (by decide) (by decide) rfl rfl ?_
    refine a_iload_n ho dX12_takenBy_38 rfl rfl 2 rfl ?_
    refine a_if_ne (tgt := 46) ho dX12_takenBy_39 rfl rfl (fun hc39 => ?_) (fun hc39 => ?_)
    · replace h := if_f hc39 h
      refine a_iload_n ho dX12_takenBy_46 rfl rfl 2 rfl ?_
      refine a_iconst (v := 1) ho dX12_takenBy_47 rfl (by decide) ?_
      refine a_iadd ho dX12_takenBy_48 rfl ?_
      exact a_iret ho dX12_takenBy_49 (rI hr0 (ro_el h)) hs0
    · replace h := if_t hc39 h
      refine a_iconst (v := 0) ho dX12_takenBy_42 rfl (by decide) ?_
      refine a_goto (tgt := 49) ho dX12_takenBy_43 rfl ?_
      exact a_iret ho dX12_takenBy_49 (rI hr0 (ro_el h)) hs0
  replace h := if_f hw1_3 h
  by_cases hw1_4 : x0 = 4
  · replace h := if_t hw1_4 h
    refine a_tin (tgt := 50) ho 4 hw1_4 dX12_takenBy_1 (by decide) (by decide) rfl rfl ?_
    refine a_iload_n ho dX12_takenBy_50 rfl rfl 2 rfl ?_
    refine a_if_ne (tgt := 58) ho dX12_takenBy_51 rfl rfl (fun hc51 => ?_) (fun hc51 => ?_)
    · replace h := if_f hc51 h
      refine a_iload_n ho dX12_takenBy_58 rfl rfl 2 rfl ?_
      refine a_iconst (v := 2) ho dX12_takenBy_59 rfl (by decide) ?_
      refine a_idiv ho dX12_takenBy_60 rfl (by decide) ?_
      refine a_iconst (v := 1) ho dX12_takenBy_61 rfl (by decide) ?_
      refine a_iadd ho dX12_takenBy_62 rfl ?_
      exact a_iret ho dX12_takenBy_63 (rI hr0 (ro_el h)) hs0
    · replace h := if_t hc51 h
      refine a_iconst (v := 0) ho dX12_takenBy_54 rfl (by decide) ?_
      refine a_goto (tgt := 63) ho dX12_takenBy_55 rfl ?_
      exact a_iret ho dX12_takenBy_63 (rI hr0 (ro_el h)) hs0
  replace h := if_f hw1_4 h
  by_cases hw1_5 : x0 = 5
  · replace h := if_t hw1_5 h
    refine a_tin (tgt := 64) ho 5 hw1_5 dX12_takenBy_1 (by decide) (by decide) rfl rfl ?_
    refine a_iload_n ho dX12_takenBy_64 rfl rfl 2 rfl ?_
    refine a_if_eq (tgt := 73) ho dX12_takenBy_65 rfl rfl (fun hc65 => ?_) (fun hc65 => ?_)
    · replace h := if_t hc65 h
      exact a_sub [] rfl (T_X12_takenBy_73 ho hr0 hs0 h)
    · replace h := if_f hc65 h
      refine a_iload_n ho dX12_takenBy_68 rfl rfl 1 rfl ?_
      refine a_iconst (v := 4) ho dX12_takenBy_69 rfl (by decide) ?_
      refine a_icmp_lt (tgt := 77) ho dX12_takenBy_70 rfl rfl (fun hc70 => ?_) (fun hc70 => ?_)
      · replace h := if_t hc70 h
        refine a_iload_n ho dX12_takenBy_77 rfl rfl 2 rfl ?_
        refine a_iconst (v := 2) ho dX12_takenBy_78 rfl (by decide) ?_
        refine a_idiv ho dX12_takenBy_79 rfl (by decide) ?_
        refine a_iconst (v := 1) ho dX12_takenBy_80 rfl (by decide) ?_
        refine a_iadd ho dX12_takenBy_81 rfl ?_
        exact a_iret ho dX12_takenBy_82 (rI hr0 (ro_el h)) hs0
      · replace h := if_f hc70 h
        exact a_sub [] rfl (T_X12_takenBy_73 ho hr0 hs0 h)
  replace h := if_f hw1_5 h
  refine a_tout (tgt := 83) ho (by have q2 := tI hw1_2 (z := 2) rfl; have q3 := tI hw1_3 (z := 3) rfl; have q4 := tI hw1_4 (z := 4) rfl; have q5 := tI hw1_5 (z := 5) rfl; omega) dX12_takenBy_1 rfl ?_
  refine a_iload_n ho dX12_takenBy_83 rfl rfl 2 rfl ?_
  exact a_iret ho dX12_takenBy_84 (rI hr0 (ro_el h)) hs0
theorem C_X12_takenBy {l : Launch} {X : gX} {σ : gS} {r0 : Int32} {a0 : Int32} {a1 : Int32} {a2 : Int32} (h : F_X12_takenBy_0 a0 a1 a2 = some r0) : gCt l X yX12_takenBy (.code yX12_takenBy cX12_takenBy 3 (some .int)) 2 [.int a0, .int a1, .int a2] σ (some (.int r0)) σ :=
  gCt_of cX12_takenBy (by decide) (Nat.le_of_ble_eq_true rfl) (fun G hl hX hv hs ho => by subst hl; subst hX; exact a_sub [0, 1, 2] rfl (T_X12_takenBy_0 ho hv hs h))
theorem T_X12_takenOn_0 {G : gM} (ho : gOk G "WaxClothModel" cX12_takenOn 3 (some .int) 6) {r0 : Int32} (hr0 : gv0 G = some (.int r0)) {σ : gS} (hs0 : gs0 G = σ) {c1 : Nat} (hc1 : isI c1 40) {x2 : Int32} {x3 : Int32} {x4 : Int32} (h : F_X12_takenOn_0 c1 x2 x3 x4 σ = some r0) : gAt G 0 [(0, .ref (gad G 82)), (1, .ref (gad G c1)), (2, .int x2), (3, .int x3), (4, .int x4)] [] σ := by
  unfold F_X12_takenOn_0 at h
  refine a_aload_n ho dX12_takenOn_0 rfl rfl 1 rfl ?_
  refine a_iconst (v := 0) ho dX12_takenOn_1 rfl (by decide) ?_
  refine a_iconst (v := 3) ho dX12_takenOn_2 rfl (by decide) ?_
  refine a_iload_n ho dX12_takenOn_3 rfl rfl 2 rfl ?_
  refine a_imul ho dX12_takenOn_4 rfl ?_
  refine a_iadd ho dX12_takenOn_5 rfl ?_
  refine a_iload ho dX12_takenOn_6 rfl 4 rfl ?_
  refine a_iadd ho dX12_takenOn_8 rfl ?_
  obtain ⟨hk9, h⟩ := ck_el h
  refine a_iald ho hc1 hk9 dX12_takenOn_9 rfl ?_
  obtain ⟨x10, hb10, h⟩ := bd_el h
  refine a_nmI hb10 ?_
  refine a_istore (L' := [(5, .int x10), (0, .ref (gad G 82)), (1, .ref (gad G c1)), (2, .int x2), (3, .int x3), (4, .int x4)]) ho dX12_takenOn_10 rfl (by decide) rfl ?_
  refine a_aload_n ho dX12_takenOn_12 rfl rfl 2 rfl ?_
  refine a_bipush (v := 24) ho dX12_takenOn_13 rfl (by decide) ?_
  refine a_iload_n ho dX12_takenOn_15 rfl rfl 3 rfl ?_
  refine a_iadd ho dX12_takenOn_16 rfl ?_
  obtain ⟨hk17, h⟩ := ck_el h
  refine a_iald ho hc1 hk17 dX12_takenOn_17 rfl ?_
  refine a_if_le (tgt := 25) ho dX12_takenOn_18 rfl rfl (fun hc18 => ?_) (fun hc18 => ?_)
  · replace h := if_t hc18 h
    refine a_bipush (v := 9) ho dX12_takenOn_25 rfl (by decide) ?_
    refine a_iload ho dX12_takenOn_27 rfl 0 rfl ?_
    refine a_isub ho dX12_takenOn_29 rfl ?_
    refine a_aload_n ho dX12_takenOn_30 rfl rfl 1 rfl ?_
    refine a_getR ho fl_X12_7 o_82 fr_10_0 dX12_takenOn_31 rfl ?_
    refine a_iconst (v := 3) ho dX12_takenOn_34 rfl (by decide) ?_
    refine a_iload_n ho dX12_takenOn_35 rfl rfl 3 rfl ?_
    refine a_iadd ho dX12_takenOn_36 rfl ?_
    obtain ⟨hk37, h⟩ := ck_el h
    refine a_iald ho i_83 hk37 dX12_takenOn_37 rfl ?_
    refine a_iload ho dX12_takenOn_38 rfl 0 rfl ?_
    refine a_aload_n ho dX12_takenOn_40 rfl rfl 1 rfl ?_
    refine a_getR ho fl_X12_7 o_82 fr_10_0 dX12_takenOn_41 rfl ?_
    refine a_bipush (v := 11) ho dX12_takenOn_44 rfl (by decide) ?_
    refine a_iconst (v := 3) ho dX12_takenOn_46 rfl (by decide) ?_
    refine a_iload_n ho dX12_takenOn_47 rfl rfl 4 rfl ?_
    refine a_imul ho dX12_takenOn_48 rfl ?_
    refine a_iadd ho dX12_takenOn_49 rfl ?_
    refine a_iload ho dX12_takenOn_50 rfl 5 rfl ?_
    refine a_iadd ho dX12_takenOn_52 rfl ?_
    obtain ⟨hk53, h⟩ := ck_el h
    refine a_iald ho i_83 hk53 dX12_takenOn_53 rfl ?_
    obtain ⟨r54, hq54, h⟩ := ob_el h
    refine a_callSi ho vy_X12_takenBy ml_X12_130 (C_X12_takenBy hq54) rfl rfl (by decide) (Nat.le_of_ble_eq_true rfl) dX12_takenOn_54 rfl ?_
    refine a_callSi ho vy_X12_less ml_X12_126 (C_X12_less (9 - x10) r54) rfl rfl (by decide) (Nat.le_of_ble_eq_true rfl) dX12_takenOn_57 rfl ?_
    exact a_iret ho dX12_takenOn_60 (rI hr0 (ro_el h)) hs0
  · replace h := if_f hc18 h
    refine a_iconst (v := 0) ho dX12_takenOn_21 rfl (by decide) ?_
    refine a_goto (tgt := 60) ho dX12_takenOn_22 rfl ?_
    exact a_iret ho dX12_takenOn_60 (rI hr0 (ro_el h)) hs0
theorem C_X12_takenOn {l : Launch} {X : gX} {σ : gS} {r0 : Int32} {c1 : Nat} (hc1 : isI c1 40) {a2 : Int32} {a3 : Int32} {a4 : Int32} (h : F_X12_takenOn_0 c1 a2 a3 a4 σ = some r0) : gCt l X yX12_takenOn (.code yX12_takenOn cX12_takenOn 6 (some .int)) 3 [.ref (X.2.2.1 82), .ref (X.2.2.1 c1), .int a2, .int a3, .int a4] σ (some (.int r0)) σ :=
  gCt_of cX12_takenOn (by decide) (Nat.le_of_ble_eq_true rfl) (fun G hl hX hv hs ho => by subst hl; subst hX; exact a_sub [0, 1, 2, 3, 4] rfl (T_X12_takenOn_0 ho hv hs hc1 h))
theorem T_X12_cracksOn_0 {G : gM} (ho : gOk G "WaxClothModel" cX12_cracksOn 1 (some .int) 1) {r0 : Int32} (hr0 : gv0 G = some (.int r0)) {σ : gS} (hs0 : gs0 G = σ) {x0 : Int32} (h : F_X12_cracksOn_0 x0 = r0) : gAt G 0 [(0, .int x0)] [] σ := by
  unfold F_X12_cracksOn_0 at h
  refine a_iload_n ho dX12_cracksOn_0 rfl rfl 0 rfl ?_
  refine a_iconst (v := 3) ho dX12_cracksOn_1 rfl (by decide) ?_
  refine a_icmp_ne (tgt := 9) ho dX12_cracksOn_2 rfl rfl (fun hc2 => ?_) (fun hc2 => ?_)
  · replace h := if_f hc2 h
    refine a_iload_n ho dX12_cracksOn_9 rfl rfl 0 rfl ?_
    refine a_iconst (v := 4) ho dX12_cracksOn_10 rfl (by decide) ?_
    refine a_icmp_ne (tgt := 18) ho dX12_cracksOn_11 rfl rfl (fun hc11 => ?_) (fun hc11 => ?_)
    · replace h := if_f hc11 h
      refine a_iconst (v := 1) ho dX12_cracksOn_18 rfl (by decide) ?_
      exact a_iret ho dX12_cracksOn_19 (rI hr0 h) hs0
    · replace h := if_t hc11 h
      refine a_iconst (v := 0) ho dX12_cracksOn_14 rfl (by decide) ?_
      refine a_goto (tgt := 19) ho dX12_cracksOn_15 rfl ?_
      exact a_iret ho dX12_cracksOn_19 (rI hr0 h) hs0
  · replace h := if_t hc2 h
    refine a_iconst (v := 2) ho dX12_cracksOn_5 rfl (by decide) ?_
    refine a_goto (tgt := 19) ho dX12_cracksOn_6 rfl ?_
    exact a_iret ho dX12_cracksOn_19 (rI hr0 h) hs0
theorem C_X12_cracksOn {l : Launch} {X : gX} {σ : gS} (a0 : Int32) : gCt l X yX12_cracksOn (.code yX12_cracksOn cX12_cracksOn 1 (some .int)) 1 [.int a0] σ (some (.int (F_X12_cracksOn_0 a0))) σ :=
  gCt_of cX12_cracksOn (by decide) (Nat.le_of_ble_eq_true rfl) (fun G hl hX hv hs ho => by subst hl; subst hX; exact a_sub [0] rfl (T_X12_cracksOn_0 ho hv hs rfl))
theorem T_X12_bathes_50 {G : gM} (ho : gOk G "WaxClothModel" cX12_bathes 4 none 5) (hr0 : gv0 G = none) {σ0 : gS} (hs0 : gs0 G = σ0) {c1 : Nat} (hc1 : isI c1 40) : ∀ (n : Nat) (x2 : Int32) (x3 : Int32) (x4 : Int32) (σ : gS), F_X12_bathes_50 c1 n x2 x3 x4 σ = some σ0 → gAt G 50 [(0, .ref (gad G 82)), (1, .ref (gad G c1)), (2, .int x2), (3, .int x3), (4, .int x4)] [] σ := by
  intro n
  induction n with
  | zero => intro x2 x3 x4 σ h; cases h
  | succ n ih =>
    intro x2 x3 x4 σ h
    unfold F_X12_bathes_50 at h
    refine a_iload ho dX12_bathes_50 rfl 4 rfl ?_
    refine a_iconst (v := 3) ho dX12_bathes_52 rfl (by decide) ?_
    refine a_icmp_ge (tgt := 84) ho dX12_bathes_53 rfl rfl (fun hc53 => ?_) (fun hc53 => ?_)
    · replace h := if_t hc53 h
      exact a_vret ho dX12_bathes_84 hr0 (rS hs0 (ro_el h))
    · replace h := if_f hc53 h
      refine a_aload_n ho dX12_bathes_56 rfl rfl 1 rfl ?_
      refine a_iconst (v := 0) ho dX12_bathes_57 rfl (by decide) ?_
      refine a_iconst (v := 3) ho dX12_bathes_58 rfl (by decide) ?_
      refine a_iload_n ho dX12_bathes_59 rfl rfl 2 rfl ?_
      refine a_imul ho dX12_bathes_60 rfl ?_
      refine a_iadd ho dX12_bathes_61 rfl ?_
      refine a_iload ho dX12_bathes_62 rfl 4 rfl ?_
      refine a_iadd ho dX12_bathes_64 rfl ?_
      refine a_dup2 ho dX12_bathes_65 rfl rfl rfl ?_
      obtain ⟨hk66, h⟩ := ck_el h
      refine a_iald ho hc1 hk66 dX12_bathes_66 rfl ?_
      refine a_aload_n ho dX12_bathes_67 rfl rfl 0 rfl ?_
      refine a_aload_n ho dX12_bathes_68 rfl rfl 1 rfl ?_
      refine a_iload_n ho dX12_bathes_69 rfl rfl 2 rfl ?_
      refine a_iload_n ho dX12_bathes_70 rfl rfl 3 rfl ?_
      refine a_iload ho dX12_bathes_71 rfl 4 rfl ?_
      obtain ⟨r73, hq73, h⟩ := ob_el h
      refine a_callVi ho vy_X12_takenOn ml_X12_137 o_82 (C_X12_takenOn hc1 hq73) rfl rfl (by decide) (Nat.le_of_ble_eq_true rfl) dX12_bathes_73 rfl ?_
      refine a_iadd ho dX12_bathes_76 rfl ?_
      obtain ⟨hk77, h⟩ := ck_el h
      refine a_iast ho hc1 hk77 dX12_bathes_77 rfl ?_
      obtain ⟨σ77, hs77, h⟩ := bd_el h
      refine a_nmS hs77 ?_
      obtain ⟨x78, hb78, h⟩ := bd_el h
      refine a_iinc (L' := [(4, .int x78), (0, .ref (gad G 82)), (1, .ref (gad G c1)), (2, .int x2), (3, .int x3)]) ho dX12_bathes_78 rfl 4 rfl hb78 (by decide) rfl ?_
      refine a_goto (tgt := 50) ho dX12_bathes_81 rfl ?_
      exact a_sub [1, 2, 3, 4, 0] rfl (ih _ _ _ _ h)
theorem T_X12_bathes_45 {G : gM} (ho : gOk G "WaxClothModel" cX12_bathes 4 none 5) (hr0 : gv0 G = none) {σ0 : gS} (hs0 : gs0 G = σ0) {c1 : Nat} (hc1 : isI c1 40) {y0 : Int32} {y1 : Int32} {σ : gS} (h : F_X12_bathes_45 c1 y0 y1 σ = some σ0) : gAt G 45 [] [.int y0, .int y1, .ref (gad G c1)] σ := by
  unfold F_X12_bathes_45 at h
  obtain ⟨hk45, h⟩ := ck_el h
  refine a_iast ho hc1 hk45 dX12_bathes_45 rfl ?_
  obtain ⟨σ45, hs45, h⟩ := bd_el h
  refine a_nmS hs45 ?_
  exact a_vret ho dX12_bathes_46 hr0 (rS hs0 (ro_el h))
theorem T_X12_bathes_0 {G : gM} (ho : gOk G "WaxClothModel" cX12_bathes 4 none 5) (hr0 : gv0 G = none) {σ0 : gS} (hs0 : gs0 G = σ0) {c1 : Nat} (hc1 : isI c1 40) {x2 : Int32} {x3 : Int32} {σ : gS} (h : F_X12_bathes_0 c1 x2 x3 σ = some σ0) : gAt G 0 [(0, .ref (gad G 82)), (1, .ref (gad G c1)), (2, .int x2), (3, .int x3)] [] σ := by
  unfold F_X12_bathes_0 at h
  refine a_aload_n ho dX12_bathes_0 rfl rfl 1 rfl ?_
  refine a_bipush (v := 24) ho dX12_bathes_1 rfl (by decide) ?_
  refine a_iload_n ho dX12_bathes_3 rfl rfl 2 rfl ?_
  refine a_iadd ho dX12_bathes_4 rfl ?_
  obtain ⟨hk5, h⟩ := ck_el h
  refine a_iald ho hc1 hk5 dX12_bathes_5 rfl ?_
  refine a_if_le (tgt := 47) ho dX12_bathes_6 rfl rfl (fun hc6 => ?_) (fun hc6 => ?_)
  · replace h := if_t hc6 h
    refine a_iconst (v := 0) ho dX12_bathes_47 rfl (by decide) ?_
    refine a_istore (L' := [(4, .int 0), (0, .ref (gad G 82)), (1, .ref (gad G c1)), (2, .int x2), (3, .int x3)]) ho dX12_bathes_48 rfl (by decide) rfl ?_
    exact a_sub [1, 2, 3, 4, 0] rfl (T_X12_bathes_50 ho hr0 hs0 hc1 _ _ _ _ _ h)
  · replace h := if_f hc6 h
    refine a_aload_n ho dX12_bathes_9 rfl rfl 1 rfl ?_
    refine a_bipush (v := 24) ho dX12_bathes_10 rfl (by decide) ?_
    refine a_iload_n ho dX12_bathes_12 rfl rfl 2 rfl ?_
    refine a_iadd ho dX12_bathes_13 rfl ?_
    obtain ⟨hk14, h⟩ := ck_el h
    refine a_iald ho hc1 hk14 dX12_bathes_14 rfl ?_
    refine a_aload_n ho dX12_bathes_15 rfl rfl 0 rfl ?_
    refine a_getR ho fl_X12_7 o_82 fr_10_0 dX12_bathes_16 rfl ?_
    refine a_iconst (v := 3) ho dX12_bathes_19 rfl (by decide) ?_
    refine a_iload_n ho dX12_bathes_20 rfl rfl 2 rfl ?_
    refine a_iadd ho dX12_bathes_21 rfl ?_
    obtain ⟨hk22, h⟩ := ck_el h
    refine a_iald ho i_83 hk22 dX12_bathes_22 rfl ?_
    refine a_callSi ho vy_X12_cracksOn ml_X12_134 (C_X12_cracksOn (σ.1 83 (Int32.toNatClampNeg (3 + x2)))) rfl rfl (by decide) (Nat.le_of_ble_eq_true rfl) dX12_bathes_23 rfl ?_
    refine a_isub ho dX12_bathes_26 rfl ?_
    obtain ⟨x27, hb27, h⟩ := bd_el h
    refine a_nmI hb27 ?_
    refine a_istore (L' := [(4, .int x27), (0, .ref (gad G 82)), (1, .ref (gad G c1)), (2, .int x2), (3, .int x3)]) ho dX12_bathes_27 rfl (by decide) rfl ?_
    refine a_aload_n ho dX12_bathes_29 rfl rfl 2 rfl ?_
    refine a_bipush (v := 24) ho dX12_bathes_30 rfl (by decide) ?_
    refine a_iload_n ho dX12_bathes_32 rfl rfl 3 rfl ?_
    refine a_iadd ho dX12_bathes_33 rfl ?_
    refine a_iload ho dX12_bathes_34 rfl 0 rfl ?_
    refine a_if_ge (tgt := 43) ho dX12_bathes_36 rfl rfl (fun hc36 => ?_) (fun hc36 => ?_)
    · replace h := if_t hc36 h
      refine a_iload ho dX12_bathes_43 rfl 0 rfl ?_
      exact a_sub [] rfl (T_X12_bathes_45 ho hr0 hs0 hc1 h)
    · replace h := if_f hc36 h
      refine a_iconst (v := 0) ho dX12_bathes_39 rfl (by decide) ?_
      refine a_goto (tgt := 45) ho dX12_bathes_40 rfl ?_
      exact a_sub [] rfl (T_X12_bathes_45 ho hr0 hs0 hc1 h)
theorem C_X12_bathes {l : Launch} {X : gX} {σ σ0 : gS} {c1 : Nat} (hc1 : isI c1 40) {a2 : Int32} {a3 : Int32} (h : F_X12_bathes_0 c1 a2 a3 σ = some σ0) : gCt l X yX12_bathes (.code yX12_bathes cX12_bathes 5 none) 4 [.ref (X.2.2.1 82), .ref (X.2.2.1 c1), .int a2, .int a3] σ (none) σ0 :=
  gCt_of cX12_bathes (by decide) (Nat.le_of_ble_eq_true rfl) (fun G hl hX hv hs ho => by subst hl; subst hX; exact a_sub [0, 1, 2, 3] rfl (T_X12_bathes_0 ho hv hs hc1 h))
theorem T_X12_rinses_42 {G : gM} (ho : gOk G "WaxClothModel" cX12_rinses 1 none 5) (hr0 : gv0 G = none) {σ0 : gS} (hs0 : gs0 G = σ0) {c1 : Nat} {g2 : Int32 → Int32 → gS → Option gS} (hg2 : ∀ (x2 : Int32) (x3 : Int32) (σ : gS), g2 x2 x3 σ = some σ0 → gAt G 2 [(1, .ref (gad G c1)), (2, .int x2), (3, .int x3)] [] σ) (hc1 : isI c1 40) {x2 : Int32} {x3 : Int32} {y0 : Int32} {y1 : Int32} {y2 : Int32} {σ : gS} (h : F_X12_rinses_42 g2 c1 x2 x3 y0 y1 y2 σ = some σ0) : gAt G 42 [(1, .ref (gad G c1)), (2, .int x2), (3, .int x3)] [.int y0, .int y1, .int y2, .ref (gad G c1)] σ := by
  unfold F_X12_rinses_42 at h
  refine a_isub ho dX12_rinses_42 rfl ?_
  obtain ⟨hk43, h⟩ := ck_el h
  refine a_iast ho hc1 hk43 dX12_rinses_43 rfl ?_
  obtain ⟨σ43, hs43, h⟩ := bd_el h
  refine a_nmS hs43 ?_
  obtain ⟨x44, hb44, h⟩ := bd_el h
  refine a_iinc (L' := [(3, .int x44), (1, .ref (gad G c1)), (2, .int x2)]) ho dX12_rinses_44 rfl 2 rfl hb44 (by decide) rfl ?_
  refine a_goto (tgt := 2) ho dX12_rinses_47 rfl ?_
  exact a_sub [1, 2, 0] rfl (hg2 _ _ _ h)
theorem T_X12_rinses_41 {G : gM} (ho : gOk G "WaxClothModel" cX12_rinses 1 none 5) (hr0 : gv0 G = none) {σ0 : gS} (hs0 : gs0 G = σ0) {c1 : Nat} {g2 : Int32 → Int32 → gS → Option gS} (hg2 : ∀ (x2 : Int32) (x3 : Int32) (σ : gS), g2 x2 x3 σ = some σ0 → gAt G 2 [(1, .ref (gad G c1)), (2, .int x2), (3, .int x3)] [] σ) (hc1 : isI c1 40) {x2 : Int32} {x3 : Int32} {y0 : Int32} {y1 : Int32} {σ : gS} (h : F_X12_rinses_41 g2 c1 x2 x3 y0 y1 σ = some σ0) : gAt G 41 [(1, .ref (gad G c1)), (2, .int x2), (3, .int x3)] [.int y0, .int y1, .ref (gad G c1)] σ := by
  unfold F_X12_rinses_41 at h
  refine a_iconst (v := 0) ho dX12_rinses_41 rfl (by decide) ?_
  exact a_sub [0, 1, 2] rfl (T_X12_rinses_42 ho hr0 hs0 hg2 hc1 h)
theorem T_X12_rinses_2 {G : gM} (ho : gOk G "WaxClothModel" cX12_rinses 1 none 5) (hr0 : gv0 G = none) {σ0 : gS} (hs0 : gs0 G = σ0) {c1 : Nat} (hc1 : isI c1 40) : ∀ (n : Nat) (x2 : Int32) (x3 : Int32) (σ : gS), F_X12_rinses_2 c1 n x2 x3 σ = some σ0 → gAt G 2 [(1, .ref (gad G c1)), (2, .int x2), (3, .int x3)] [] σ := by
  intro n
  induction n with
  | zero => intro x2 x3 σ h; cases h
  | succ n ih =>
    intro x2 x3 σ h
    unfold F_X12_rinses_2 at h
    refine a_iload_n ho dX12_rinses_2 rfl rfl 2 rfl ?_
    refine a_iconst (v := 3) ho dX12_rinses_3 rfl (by decide) ?_
    refine a_icmp_ge (tgt := 50) ho dX12_rinses_4 rfl rfl (fun hc4 => ?_) (fun hc4 => ?_)
    · replace h := if_t hc4 h
      exact a_vret ho dX12_rinses_50 hr0 (rS hs0 (ro_el h))
    · replace h := if_f hc4 h
      refine a_iconst (v := 0) ho dX12_rinses_7 rfl (by decide) ?_
      refine a_iconst (v := 3) ho dX12_rinses_8 rfl (by decide) ?_
      refine a_iload_n ho dX12_rinses_9 rfl rfl 1 rfl ?_
      refine a_imul ho dX12_rinses_10 rfl ?_
      refine a_iadd ho dX12_rinses_11 rfl ?_
      refine a_iload_n ho dX12_rinses_12 rfl rfl 2 rfl ?_
      refine a_iadd ho dX12_rinses_13 rfl ?_
      obtain ⟨x14, hb14, h⟩ := bd_el h
      refine a_nmI hb14 ?_
      refine a_istore (L' := [(4, .int x14), (1, .ref (gad G c1)), (2, .int x2), (3, .int x3)]) ho dX12_rinses_14 rfl (by decide) rfl ?_
      refine a_aload_n ho dX12_rinses_16 rfl rfl 1 rfl ?_
      refine a_iload ho dX12_rinses_17 rfl 0 rfl ?_
      refine a_dup2 ho dX12_rinses_19 rfl rfl rfl ?_
      obtain ⟨hk20, h⟩ := ck_el h
      refine a_iald ho hc1 hk20 dX12_rinses_20 rfl ?_
      refine a_aload_n ho dX12_rinses_21 rfl rfl 1 rfl ?_
      refine a_iload ho dX12_rinses_22 rfl 0 rfl ?_
      obtain ⟨hk24, h⟩ := ck_el h
      refine a_iald ho hc1 hk24 dX12_rinses_24 rfl ?_
      refine a_if_le (tgt := 41) ho dX12_rinses_25 rfl rfl (fun hc25 => ?_) (fun hc25 => ?_)
      · replace h := if_t hc25 h
        exact a_sub [1, 2, 3] rfl (T_X12_rinses_41 ho hr0 hs0 ih hc1 h)
      · replace h := if_f hc25 h
        refine a_aload_n ho dX12_rinses_28 rfl rfl 1 rfl ?_
        refine a_bipush (v := 24) ho dX12_rinses_29 rfl (by decide) ?_
        refine a_iload_n ho dX12_rinses_31 rfl rfl 2 rfl ?_
        refine a_iadd ho dX12_rinses_32 rfl ?_
        obtain ⟨hk33, h⟩ := ck_el h
        refine a_iald ho hc1 hk33 dX12_rinses_33 rfl ?_
        refine a_if_ne (tgt := 41) ho dX12_rinses_34 rfl rfl (fun hc34 => ?_) (fun hc34 => ?_)
        · replace h := if_f hc34 h
          exact a_sub [1, 2, 3] rfl (T_X12_rinses_41 ho hr0 hs0 ih hc1 h)
        · replace h := if_t hc34 h
          refine a_iconst (v := 1) ho dX12_rinses_37 rfl (by decide) ?_
          refine a_goto (tgt := 42) ho dX12_rinses_38 rfl ?_
          exact a_sub [1, 2, 3] rfl (T_X12_rinses_42 ho hr0 hs0 ih hc1 h)
theorem T_X12_rinses_0 {G : gM} (ho : gOk G "WaxClothModel" cX12_rinses 1 none 5) (hr0 : gv0 G = none) {σ0 : gS} (hs0 : gs0 G = σ0) {c1 : Nat} (hc1 : isI c1 40) {x2 : Int32} {σ : gS} (h : F_X12_rinses_0 c1 x2 σ = some σ0) : gAt G 0 [(1, .ref (gad G c1)), (2, .int x2)] [] σ := by
  unfold F_X12_rinses_0 at h
  refine a_iconst (v := 0) ho dX12_rinses_0 rfl (by decide) ?_
  refine a_istore_n (L' := [(3, .int 0), (1, .ref (gad G c1)), (2, .int x2)]) ho dX12_rinses_1 rfl rfl (by decide) rfl ?_
  exact a_sub [1, 2, 0] rfl (T_X12_rinses_2 ho hr0 hs0 hc1 _ _ _ _ h)
theorem C_X12_rinses {l : Launch} {X : gX} {σ σ0 : gS} {c1 : Nat} (hc1 : isI c1 40) {a2 : Int32} (h : F_X12_rinses_0 c1 a2 σ = some σ0) : gCt l X yX12_rinses (.code yX12_rinses cX12_rinses 5 none) 1 [.ref (X.2.2.1 82), .ref (X.2.2.1 c1), .int a2] σ (none) σ0 :=
  gCt_of cX12_rinses (by decide) (Nat.le_of_ble_eq_true rfl) (fun G hl hX hv hs ho => by subst hl; subst hX; exact a_sub [1, 2] rfl (T_X12_rinses_0 ho hv hs hc1 h))
theorem T_X12_isDoing_59 {G : gM} (ho : gOk G "WaxClothModel" cX12_isDoing 2 (some .boolean) 3) {r0 : Int32} (hr0 : gv0 G = some (.int r0)) {σ : gS} (hs0 : gs0 G = σ) (h : F_X12_isDoing_59 σ = some r0) : gAt G 59 [] [] σ := by
  unfold F_X12_isDoing_59 at h
  refine a_iconst (v := 1) ho dX12_isDoing_59 rfl (by decide) ?_
  refine a_goto (tgt := 64) ho dX12_isDoing_60 rfl ?_
  exact a_zret ho dX12_isDoing_64 rfl (rI hr0 (ro_el h)) hs0
theorem T_X12_isDoing_0 {G : gM} (ho : gOk G "WaxClothModel" cX12_isDoing 2 (some .boolean) 3) {r0 : Int32} (hr0 : gv0 G = some (.int r0)) {σ : gS} (hs0 : gs0 G = σ) {x1 : Int64} (h : F_X12_isDoing_0 x1 σ = some r0) : gAt G 0 [(0, .ref (gad G 82)), (1, .long x1)] [] σ := by
  unfold F_X12_isDoing_0 at h
  refine a_lload_n ho dX12_isDoing_0 rfl rfl 1 rfl ?_
  refine a_lconst (v := 0) ho dX12_isDoing_1 rfl (by decide) ?_
  refine a_aload_n ho dX12_isDoing_2 rfl rfl 0 rfl ?_
  refine a_getR ho fl_X12_7 o_82 fr_10_0 dX12_isDoing_3 rfl ?_
  refine a_iconst (v := 1) ho dX12_isDoing_6 rfl (by decide) ?_
  refine a_iald ho i_83 (by decide) dX12_isDoing_7 rfl ?_
  refine a_nmI (x := σ.1 83 1) rfl ?_
  refine a_iconst (v := 1) ho dX12_isDoing_8 rfl (by decide) ?_
  refine a_isub ho dX12_isDoing_9 rfl ?_
  refine a_i2l ho dX12_isDoing_10 rfl ?_
  refine a_callSi ho vy_X12_in ml_X12_59 (C_X12_in x1 0 (Int32.toInt64 ((σ.1 83 1) - 1))) rfl rfl (by decide) (Nat.le_of_ble_eq_true rfl) dX12_isDoing_11 rfl ?_
  refine a_if_ne (tgt := 59) ho dX12_isDoing_14 rfl rfl (fun hc14 => ?_) (fun hc14 => ?_)
  · replace h := if_f hc14 h
    exact a_sub [] rfl (T_X12_isDoing_59 ho hr0 hs0 h)
  · replace h := if_t hc14 h
    refine a_lload_n ho dX12_isDoing_17 rfl rfl 1 rfl ?_
    refine a_ldc2 ho dX12_isDoing_18 rfl kk_X12_141 ?_
    refine a_bipush (v := 9) ho dX12_isDoing_21 rfl (by decide) ?_
    refine a_aload_n ho dX12_isDoing_23 rfl rfl 0 rfl ?_
    refine a_getR ho fl_X12_7 o_82 fr_10_0 dX12_isDoing_24 rfl ?_
    refine a_iconst (v := 2) ho dX12_isDoing_27 rfl (by decide) ?_
    refine a_iald ho i_83 (by decide) dX12_isDoing_28 rfl ?_
    refine a_nmI (x := σ.1 83 2) rfl ?_
    refine a_iadd ho dX12_isDoing_29 rfl ?_
    refine a_i2l ho dX12_isDoing_30 rfl ?_
    refine a_callSi ho vy_X12_in ml_X12_59 (C_X12_in x1 10 (Int32.toInt64 (9 + (σ.1 83 2)))) rfl rfl (by decide) (Nat.le_of_ble_eq_true rfl) dX12_isDoing_31 rfl ?_
    refine a_if_ne (tgt := 59) ho dX12_isDoing_34 rfl rfl (fun hc34 => ?_) (fun hc34 => ?_)
    · replace h := if_f hc34 h
      exact a_sub [] rfl (T_X12_isDoing_59 ho hr0 hs0 h)
    · replace h := if_t hc34 h
      refine a_lload_n ho dX12_isDoing_37 rfl rfl 1 rfl ?_
      refine a_ldc2 ho dX12_isDoing_38 rfl kk_X12_143 ?_
      refine a_ldc2 ho dX12_isDoing_41 rfl kk_X12_145 ?_
      refine a_callSi ho vy_X12_in ml_X12_59 (C_X12_in x1 20 21) rfl rfl (by decide) (Nat.le_of_ble_eq_true rfl) dX12_isDoing_44 rfl ?_
      refine a_if_eq (tgt := 63) ho dX12_isDoing_47 rfl rfl (fun hc47 => ?_) (fun hc47 => ?_)
      · replace h := if_t hc47 h
        refine a_iconst (v := 0) ho dX12_isDoing_63 rfl (by decide) ?_
        exact a_zret ho dX12_isDoing_64 rfl (rI hr0 (ro_el h)) hs0
      · replace h := if_f hc47 h
        refine a_aload_n ho dX12_isDoing_50 rfl rfl 0 rfl ?_
        refine a_getR ho fl_X12_7 o_82 fr_10_0 dX12_isDoing_51 rfl ?_
        refine a_iconst (v := 0) ho dX12_isDoing_54 rfl (by decide) ?_
        refine a_iald ho i_83 (by decide) dX12_isDoing_55 rfl ?_
        refine a_nmI (x := σ.1 83 0) rfl ?_
        refine a_if_le (tgt := 63) ho dX12_isDoing_56 rfl rfl (fun hc56 => ?_) (fun hc56 => ?_)
        · replace h := if_t hc56 h
          refine a_iconst (v := 0) ho dX12_isDoing_63 rfl (by decide) ?_
          exact a_zret ho dX12_isDoing_64 rfl (rI hr0 (ro_el h)) hs0
        · replace h := if_f hc56 h
          exact a_sub [] rfl (T_X12_isDoing_59 ho hr0 hs0 h)
theorem C_X12_isDoing {l : Launch} {X : gX} {σ : gS} {r0 : Int32} {a1 : Int64} (h : F_X12_isDoing_0 a1 σ = some r0) : gCt l X yX12_isDoing (.code yX12_isDoing cX12_isDoing 3 (some .boolean)) 2 [.ref (X.2.2.1 82), .long a1] σ (some (.int r0)) σ :=
  gCt_of cX12_isDoing (by decide) (Nat.le_of_ble_eq_true rfl) (fun G hl hX hv hs ho => by subst hl; subst hX; exact a_sub [0, 1] rfl (T_X12_isDoing_0 ho hv hs h))
theorem T_X12_doesOn_55 {G : gM} (ho : gOk G "WaxClothModel" cX12_doesOn 5 none 4) (hr0 : gv0 G = none) {σ0 : gS} (hs0 : gs0 G = σ0) {c1 : Nat} (hc1 : isI c1 40) {y0 : Int32} {y1 : Int32} {σ : gS} (h : F_X12_doesOn_55 c1 y0 y1 σ = some σ0) : gAt G 55 [] [.int y0, .int y1, .ref (gad G c1)] σ := by
  unfold F_X12_doesOn_55 at h
  obtain ⟨hk55, h⟩ := ck_el h
  refine a_iast ho hc1 hk55 dX12_doesOn_55 rfl ?_
  obtain ⟨σ55, hs55, h⟩ := bd_el h
  refine a_nmS hs55 ?_
  refine a_goto (tgt := 81) ho dX12_doesOn_56 rfl ?_
  exact a_vret ho dX12_doesOn_81 hr0 (rS hs0 (ro_el h))
theorem T_X12_doesOn_0 {G : gM} (ho : gOk G "WaxClothModel" cX12_doesOn 5 none 4) (hr0 : gv0 G = none) {σ0 : gS} (hs0 : gs0 G = σ0) {c1 : Nat} (hc1 : isI c1 40) {x2 : Int32} {x3 : Int32} {σ : gS} (h : F_X12_doesOn_0 c1 x2 x3 σ = some σ0) : gAt G 0 [(0, .ref (gad G 82)), (1, .ref (gad G c1)), (2, .int x2), (3, .int x3)] [] σ := by
  unfold F_X12_doesOn_0 at h
  refine a_iload_n ho dX12_doesOn_0 rfl rfl 3 rfl ?_
  refine a_iconst (v := 4) ho dX12_doesOn_1 rfl (by decide) ?_
  refine a_icmp_ge (tgt := 15) ho dX12_doesOn_2 rfl rfl (fun hc2 => ?_) (fun hc2 => ?_)
  · replace h := if_t hc2 h
    refine a_iload_n ho dX12_doesOn_15 rfl rfl 3 rfl ?_
    refine a_bipush (v := 20) ho dX12_doesOn_16 rfl (by decide) ?_
    refine a_icmp_ge (tgt := 59) ho dX12_doesOn_18 rfl rfl (fun hc18 => ?_) (fun hc18 => ?_)
    · replace h := if_t hc18 h
      refine a_iload_n ho dX12_doesOn_59 rfl rfl 3 rfl ?_
      refine a_bipush (v := 20) ho dX12_doesOn_60 rfl (by decide) ?_
      refine a_icmp_ne (tgt := 75) ho dX12_doesOn_62 rfl rfl (fun hc62 => ?_) (fun hc62 => ?_)
      · replace h := if_f hc62 h
        refine a_aload_n ho dX12_doesOn_75 rfl rfl 0 rfl ?_
        refine a_aload_n ho dX12_doesOn_76 rfl rfl 1 rfl ?_
        refine a_iload_n ho dX12_doesOn_77 rfl rfl 2 rfl ?_
        obtain ⟨σ78, hq78, h⟩ := ob_el h
        refine a_callVv ho vy_X12_rinses ml_X12_154 o_82 (C_X12_rinses hc1 hq78) rfl rfl (by decide) (Nat.le_of_ble_eq_true rfl) dX12_doesOn_78 rfl ?_
        exact a_vret ho dX12_doesOn_81 hr0 (rS hs0 (ro_el h))
      · replace h := if_t hc62 h
        refine a_aload_n ho dX12_doesOn_65 rfl rfl 1 rfl ?_
        refine a_bipush (v := 24) ho dX12_doesOn_66 rfl (by decide) ?_
        refine a_iload_n ho dX12_doesOn_68 rfl rfl 2 rfl ?_
        refine a_iadd ho dX12_doesOn_69 rfl ?_
        refine a_iconst (v := 0) ho dX12_doesOn_70 rfl (by decide) ?_
        obtain ⟨hk71, h⟩ := ck_el h
        refine a_iast ho hc1 hk71 dX12_doesOn_71 rfl ?_
        obtain ⟨σ71, hs71, h⟩ := bd_el h
        refine a_nmS hs71 ?_
        refine a_goto (tgt := 81) ho dX12_doesOn_72 rfl ?_
        exact a_vret ho dX12_doesOn_81 hr0 (rS hs0 (ro_el h))
    · replace h := if_f hc18 h
      refine a_aload_n ho dX12_doesOn_21 rfl rfl 1 rfl ?_
      refine a_bipush (v := 24) ho dX12_doesOn_22 rfl (by decide) ?_
      refine a_iload_n ho dX12_doesOn_24 rfl rfl 2 rfl ?_
      refine a_iadd ho dX12_doesOn_25 rfl ?_
      refine a_aload_n ho dX12_doesOn_26 rfl rfl 0 rfl ?_
      refine a_getR ho fl_X12_7 o_82 fr_10_0 dX12_doesOn_27 rfl ?_
      refine a_bipush (v := 23) ho dX12_doesOn_30 rfl (by decide) ?_
      refine a_iload_n ho dX12_doesOn_32 rfl rfl 3 rfl ?_
      refine a_iadd ho dX12_doesOn_33 rfl ?_
      refine a_bipush (v := 10) ho dX12_doesOn_34 rfl (by decide) ?_
      refine a_isub ho dX12_doesOn_36 rfl ?_
      obtain ⟨hk37, h⟩ := ck_el h
      refine a_iald ho i_83 hk37 dX12_doesOn_37 rfl ?_
      refine a_iload_n ho dX12_doesOn_38 rfl rfl 2 rfl ?_
      refine a_callSi ho vy_X12_has ml_X12_151 (C_X12_has (σ.1 83 (Int32.toNatClampNeg ((23 + x3) - 10))) x2) rfl rfl (by decide) (Nat.le_of_ble_eq_true rfl) dX12_doesOn_39 rfl ?_
      refine a_if_eq (tgt := 49) ho dX12_doesOn_42 rfl rfl (fun hc42 => ?_) (fun hc42 => ?_)
      · replace h := if_t hc42 h
        refine a_aload_n ho dX12_doesOn_49 rfl rfl 1 rfl ?_
        refine a_bipush (v := 24) ho dX12_doesOn_50 rfl (by decide) ?_
        refine a_iload_n ho dX12_doesOn_52 rfl rfl 2 rfl ?_
        refine a_iadd ho dX12_doesOn_53 rfl ?_
        obtain ⟨hk54, h⟩ := ck_el h
        refine a_iald ho hc1 hk54 dX12_doesOn_54 rfl ?_
        exact a_sub [] rfl (T_X12_doesOn_55 ho hr0 hs0 hc1 h)
      · replace h := if_f hc42 h
        refine a_iconst (v := 3) ho dX12_doesOn_45 rfl (by decide) ?_
        refine a_goto (tgt := 55) ho dX12_doesOn_46 rfl ?_
        exact a_sub [] rfl (T_X12_doesOn_55 ho hr0 hs0 hc1 h)
  · replace h := if_f hc2 h
    refine a_aload_n ho dX12_doesOn_5 rfl rfl 0 rfl ?_
    refine a_aload_n ho dX12_doesOn_6 rfl rfl 1 rfl ?_
    refine a_iload_n ho dX12_doesOn_7 rfl rfl 2 rfl ?_
    refine a_iload_n ho dX12_doesOn_8 rfl rfl 3 rfl ?_
    obtain ⟨σ9, hq9, h⟩ := ob_el h
    refine a_callVv ho vy_X12_bathes ml_X12_147 o_82 (C_X12_bathes hc1 hq9) rfl rfl (by decide) (Nat.le_of_ble_eq_true rfl) dX12_doesOn_9 rfl ?_
    refine a_goto (tgt := 81) ho dX12_doesOn_12 rfl ?_
    exact a_vret ho dX12_doesOn_81 hr0 (rS hs0 (ro_el h))
theorem C_X12_doesOn {l : Launch} {X : gX} {σ σ0 : gS} {c1 : Nat} (hc1 : isI c1 40) {a2 : Int32} {a3 : Int32} (h : F_X12_doesOn_0 c1 a2 a3 σ = some σ0) : gCt l X yX12_doesOn (.code yX12_doesOn cX12_doesOn 4 none) 5 [.ref (X.2.2.1 82), .ref (X.2.2.1 c1), .int a2, .int a3] σ (none) σ0 :=
  gCt_of cX12_doesOn (by decide) (Nat.le_of_ble_eq_true rfl) (fun G hl hX hv hs ho => by subst hl; subst hX; exact a_sub [0, 1, 2, 3] rfl (T_X12_doesOn_0 ho hv hs hc1 h))
theorem T_X12_doesAll_2 {G : gM} (ho : gOk G "WaxClothModel" cX12_doesAll 6 none 4) (hr0 : gv0 G = none) {σ0 : gS} (hs0 : gs0 G = σ0) {c1 : Nat} (hc1 : isI c1 40) : ∀ (n : Nat) (x2 : Int32) (x3 : Int32) (σ : gS), F_X12_doesAll_2 c1 n x2 x3 σ = some σ0 → gAt G 2 [(0, .ref (gad G 82)), (1, .ref (gad G c1)), (2, .int x2), (3, .int x3)] [] σ := by
  intro n
  induction n with
  | zero => intro x2 x3 σ h; cases h
  | succ n ih =>
    intro x2 x3 σ h
    unfold F_X12_doesAll_2 at h
    refine a_iload_n ho dX12_doesAll_2 rfl rfl 3 rfl ?_
    refine a_aload_n ho dX12_doesAll_3 rfl rfl 0 rfl ?_
    refine a_getR ho fl_X12_7 o_82 fr_10_0 dX12_doesAll_4 rfl ?_
    refine a_iconst (v := 0) ho dX12_doesAll_7 rfl (by decide) ?_
    refine a_iald ho i_83 (by decide) dX12_doesAll_8 rfl ?_
    refine a_nmI (x := σ.1 83 0) rfl ?_
    refine a_icmp_ge (tgt := 25) ho dX12_doesAll_9 rfl rfl (fun hc9 => ?_) (fun hc9 => ?_)
    · replace h := if_t hc9 h
      exact a_vret ho dX12_doesAll_25 hr0 (rS hs0 (ro_el h))
    · replace h := if_f hc9 h
      refine a_aload_n ho dX12_doesAll_12 rfl rfl 0 rfl ?_
      refine a_aload_n ho dX12_doesAll_13 rfl rfl 1 rfl ?_
      refine a_iload_n ho dX12_doesAll_14 rfl rfl 3 rfl ?_
      refine a_iload_n ho dX12_doesAll_15 rfl rfl 2 rfl ?_
      obtain ⟨σ16, hq16, h⟩ := ob_el h
      refine a_callVv ho vy_X12_doesOn ml_X12_158 o_82 (C_X12_doesOn hc1 hq16) rfl rfl (by decide) (Nat.le_of_ble_eq_true rfl) dX12_doesAll_16 rfl ?_
      obtain ⟨x19, hb19, h⟩ := bd_el h
      refine a_iinc (L' := [(3, .int x19), (0, .ref (gad G 82)), (1, .ref (gad G c1)), (2, .int x2)]) ho dX12_doesAll_19 rfl 3 rfl hb19 (by decide) rfl ?_
      refine a_goto (tgt := 2) ho dX12_doesAll_22 rfl ?_
      exact a_sub [1, 2, 3, 0] rfl (ih _ _ _ h)
theorem T_X12_doesAll_0 {G : gM} (ho : gOk G "WaxClothModel" cX12_doesAll 6 none 4) (hr0 : gv0 G = none) {σ0 : gS} (hs0 : gs0 G = σ0) {c1 : Nat} (hc1 : isI c1 40) {x2 : Int32} {σ : gS} (h : F_X12_doesAll_0 c1 x2 σ = some σ0) : gAt G 0 [(0, .ref (gad G 82)), (1, .ref (gad G c1)), (2, .int x2)] [] σ := by
  unfold F_X12_doesAll_0 at h
  refine a_iconst (v := 0) ho dX12_doesAll_0 rfl (by decide) ?_
  refine a_istore_n (L' := [(3, .int 0), (0, .ref (gad G 82)), (1, .ref (gad G c1)), (2, .int x2)]) ho dX12_doesAll_1 rfl rfl (by decide) rfl ?_
  exact a_sub [1, 2, 3, 0] rfl (T_X12_doesAll_2 ho hr0 hs0 hc1 _ _ _ _ h)
theorem C_X12_doesAll {l : Launch} {X : gX} {σ σ0 : gS} {c1 : Nat} (hc1 : isI c1 40) {a2 : Int32} (h : F_X12_doesAll_0 c1 a2 σ = some σ0) : gCt l X yX12_doesAll (.code yX12_doesAll cX12_doesAll 4 none) 6 [.ref (X.2.2.1 82), .ref (X.2.2.1 c1), .int a2] σ (none) σ0 :=
  gCt_of cX12_doesAll (by decide) (Nat.le_of_ble_eq_true rfl) (fun G hl hX hv hs ho => by subst hl; subst hX; exact a_sub [0, 1, 2] rfl (T_X12_doesAll_0 ho hv hs hc1 h))
theorem T_X12_square_0 {G : gM} (ho : gOk G "WaxClothModel" cX12_square 3 (some .int) 3) {r0 : Int32} (hr0 : gv0 G = some (.int r0)) {σ : gS} (hs0 : gs0 G = σ) {x1 : Int32} {x2 : Int32} (h : F_X12_square_0 x1 x2 σ = some r0) : gAt G 0 [(0, .ref (gad G 82)), (1, .int x1), (2, .int x2)] [] σ := by
  unfold F_X12_square_0 at h
  refine a_aload_n ho dX12_square_0 rfl rfl 0 rfl ?_
  refine a_iload_n ho dX12_square_1 rfl rfl 1 rfl ?_
  obtain ⟨r2, hq2, h⟩ := ob_el h
  refine a_callVi ho vy_X12_isSquare ml_X12_161 o_82 (C_X12_isSquare hq2) rfl rfl (by decide) (Nat.le_of_ble_eq_true rfl) dX12_square_2 rfl ?_
  refine a_if_eq (tgt := 20) ho dX12_square_5 rfl rfl (fun hc5 => ?_) (fun hc5 => ?_)
  · replace h := if_t hc5 h
    refine a_iconst (v := (-1)) ho dX12_square_20 rfl (by decide) ?_
    exact a_iret ho dX12_square_21 (rI hr0 (ro_el h)) hs0
  · replace h := if_f hc5 h
    refine a_iload_n ho dX12_square_8 rfl rfl 2 rfl ?_
    refine a_i2l ho dX12_square_9 rfl ?_
    refine a_lconst (v := 0) ho dX12_square_10 rfl (by decide) ?_
    refine a_ldc2 ho dX12_square_11 rfl kk_X12_164 ?_
    refine a_callSi ho vy_X12_in ml_X12_59 (C_X12_in (Int32.toInt64 x2) 0 8) rfl rfl (by decide) (Nat.le_of_ble_eq_true rfl) dX12_square_14 rfl ?_
    refine a_if_ne (tgt := 22) ho dX12_square_17 rfl rfl (fun hc17 => ?_) (fun hc17 => ?_)
    · replace h := if_f hc17 h
      refine a_iload_n ho dX12_square_22 rfl rfl 2 rfl ?_
      by_cases hw23_0 : x2 = 0
      · replace h := if_t hw23_0 h
        refine a_tin (tgt := 60) ho 0 hw23_0 dX12_square_23 (by decide) (by decide) rfl rfl ?_
        refine a_aload_n ho dX12_square_60 rfl rfl 0 rfl ?_
        refine a_getR ho fl_X12_7 o_82 fr_10_0 dX12_square_61 rfl ?_
        refine a_iconst (v := 3) ho dX12_square_64 rfl (by decide) ?_
        refine a_iload_n ho dX12_square_65 rfl rfl 1 rfl ?_
        refine a_iadd ho dX12_square_66 rfl ?_
        obtain ⟨hk67, h⟩ := ck_el h
        refine a_iald ho i_83 hk67 dX12_square_67 rfl ?_
        exact a_iret ho dX12_square_68 (rI hr0 (ro_el h)) hs0
      replace h := if_f hw23_0 h
      by_cases hw23_1 : x2 = 1
      · replace h := if_t hw23_1 h
        refine a_tin (tgt := 69) ho 1 hw23_1 dX12_square_23 (by decide) (by decide) rfl rfl ?_
        refine a_aload_n ho dX12_square_69 rfl rfl 0 rfl ?_
        refine a_getR ho fl_X12_19 o_82 fr_10_3 dX12_square_70 rfl ?_
        refine a_bipush (v := 32) ho dX12_square_73 rfl (by decide) ?_
        refine a_iload_n ho dX12_square_75 rfl rfl 1 rfl ?_
        refine a_iadd ho dX12_square_76 rfl ?_
        obtain ⟨hk77, h⟩ := ck_el h
        refine a_iald ho i_86 hk77 dX12_square_77 rfl ?_
        exact a_iret ho dX12_square_78 (rI hr0 (ro_el h)) hs0
      replace h := if_f hw23_1 h
      by_cases hw23_2 : x2 = 2
      · replace h := if_t hw23_2 h
        refine a_tin (tgt := 79) ho 2 hw23_2 dX12_square_23 (by decide) (by decide) rfl rfl ?_
        refine a_aload_n ho dX12_square_79 rfl rfl 0 rfl ?_
        refine a_getR ho fl_X12_19 o_82 fr_10_3 dX12_square_80 rfl ?_
        refine a_bipush (v := 24) ho dX12_square_83 rfl (by decide) ?_
        refine a_iload_n ho dX12_square_85 rfl rfl 1 rfl ?_
        refine a_iadd ho dX12_square_86 rfl ?_
        obtain ⟨hk87, h⟩ := ck_el h
        refine a_iald ho i_86 hk87 dX12_square_87 rfl ?_
        exact a_iret ho dX12_square_88 (rI hr0 (ro_el h)) hs0
      replace h := if_f hw23_2 h
      by_cases hw23_3 : x2 = 3
      · replace h := if_t hw23_3 h
        refine a_tin (tgt := 89) ho 3 hw23_3 dX12_square_23 (by decide) (by decide) rfl rfl ?_
        refine a_aload_n ho dX12_square_89 rfl rfl 0 rfl ?_
        refine a_getR ho fl_X12_19 o_82 fr_10_3 dX12_square_90 rfl ?_
        refine a_iload_n ho dX12_square_93 rfl rfl 1 rfl ?_
        obtain ⟨r94, hq94, h⟩ := ob_el h
        refine a_callSi ho vy_X12_hueOf ml_X12_115 (C_X12_hueOf i_86 hq94) rfl rfl (by decide) (Nat.le_of_ble_eq_true rfl) dX12_square_94 rfl ?_
        exact a_iret ho dX12_square_97 (rI hr0 (ro_el h)) hs0
      replace h := if_f hw23_3 h
      by_cases hw23_4 : x2 = 4
      · replace h := if_t hw23_4 h
        refine a_tin (tgt := 98) ho 4 hw23_4 dX12_square_23 (by decide) (by decide) rfl rfl ?_
        refine a_aload_n ho dX12_square_98 rfl rfl 0 rfl ?_
        refine a_getR ho fl_X12_19 o_82 fr_10_3 dX12_square_99 rfl ?_
        refine a_iload_n ho dX12_square_102 rfl rfl 1 rfl ?_
        obtain ⟨r103, hq103, h⟩ := ob_el h
        refine a_callSi ho vy_X12_darkOf ml_X12_123 (C_X12_darkOf i_86 hq103) rfl rfl (by decide) (Nat.le_of_ble_eq_true rfl) dX12_square_103 rfl ?_
        exact a_iret ho dX12_square_106 (rI hr0 (ro_el h)) hs0
      replace h := if_f hw23_4 h
      by_cases hw23_5 : x2 = 5
      · replace h := if_t hw23_5 h
        refine a_tin (tgt := 107) ho 5 hw23_5 dX12_square_23 (by decide) (by decide) rfl rfl ?_
        refine a_aload_n ho dX12_square_107 rfl rfl 0 rfl ?_
        refine a_getR ho fl_X12_19 o_82 fr_10_3 dX12_square_108 rfl ?_
        refine a_iload_n ho dX12_square_111 rfl rfl 1 rfl ?_
        obtain ⟨r112, hq112, h⟩ := ob_el h
        refine a_callSi ho vy_X12_isRight ml_X12_119 (C_X12_isRight i_86 hq112) rfl rfl (by decide) (Nat.le_of_ble_eq_true rfl) dX12_square_112 rfl ?_
        refine a_if_eq (tgt := 122) ho dX12_square_115 rfl rfl (fun hc115 => ?_) (fun hc115 => ?_)
        · replace h := if_t hc115 h
          refine a_iconst (v := 0) ho dX12_square_122 rfl (by decide) ?_
          exact a_iret ho dX12_square_123 (rI hr0 (ro_el h)) hs0
        · replace h := if_f hc115 h
          refine a_iconst (v := 1) ho dX12_square_118 rfl (by decide) ?_
          refine a_goto (tgt := 123) ho dX12_square_119 rfl ?_
          exact a_iret ho dX12_square_123 (rI hr0 (ro_el h)) hs0
      replace h := if_f hw23_5 h
      refine a_tout (tgt := 124) ho (by have q0 := tI hw23_0 (z := 0) rfl; have q1 := tI hw23_1 (z := 1) rfl; have q2 := tI hw23_2 (z := 2) rfl; have q3 := tI hw23_3 (z := 3) rfl; have q4 := tI hw23_4 (z := 4) rfl; have q5 := tI hw23_5 (z := 5) rfl; omega) dX12_square_23 rfl ?_
      refine a_aload_n ho dX12_square_124 rfl rfl 0 rfl ?_
      refine a_getR ho fl_X12_19 o_82 fr_10_3 dX12_square_125 rfl ?_
      refine a_iconst (v := 0) ho dX12_square_128 rfl (by decide) ?_
      refine a_iconst (v := 3) ho dX12_square_129 rfl (by decide) ?_
      refine a_iload_n ho dX12_square_130 rfl rfl 1 rfl ?_
      refine a_imul ho dX12_square_131 rfl ?_
      refine a_iadd ho dX12_square_132 rfl ?_
      refine a_iload_n ho dX12_square_133 rfl rfl 2 rfl ?_
      refine a_iadd ho dX12_square_134 rfl ?_
      refine a_bipush (v := 6) ho dX12_square_135 rfl (by decide) ?_
      refine a_isub ho dX12_square_137 rfl ?_
      obtain ⟨hk138, h⟩ := ck_el h
      refine a_iald ho i_86 hk138 dX12_square_138 rfl ?_
      exact a_iret ho dX12_square_139 (rI hr0 (ro_el h)) hs0
    · replace h := if_t hc17 h
      refine a_iconst (v := (-1)) ho dX12_square_20 rfl (by decide) ?_
      exact a_iret ho dX12_square_21 (rI hr0 (ro_el h)) hs0
theorem C_X12_square {l : Launch} {X : gX} {σ : gS} {r0 : Int32} {a1 : Int32} {a2 : Int32} (h : F_X12_square_0 a1 a2 σ = some r0) : gCt l X yX12_square (.code yX12_square cX12_square 3 (some .int)) 3 [.ref (X.2.2.1 82), .int a1, .int a2] σ (some (.int r0)) σ :=
  gCt_of cX12_square (by decide) (Nat.le_of_ble_eq_true rfl) (fun G hl hX hv hs ho => by subst hl; subst hX; exact a_sub [0, 1, 2] rfl (T_X12_square_0 ho hv hs h))
theorem T_X12_as_74 {G : gM} (ho : gOk G "WaxClothModel" cX12_as 3 (some .int) 5) {r0 : Int32} (hr0 : gv0 G = some (.int r0)) {σ : gS} (hs0 : gs0 G = σ) {x1 : Int32} {y0 : Int32} (h : F_X12_as_74 x1 y0 σ = some r0) : gAt G 74 [(1, .int x1)] [.int y0] σ := by
  unfold F_X12_as_74 at h
  refine a_istore (L' := [(4, .int y0), (1, .int x1)]) ho dX12_as_74 rfl (by decide) rfl ?_
  refine a_iload ho dX12_as_76 rfl 0 rfl ?_
  refine a_if_eq (tgt := 85) ho dX12_as_78 rfl rfl (fun hc78 => ?_) (fun hc78 => ?_)
  · replace h := if_t hc78 h
    refine a_bipush (v := (-12)) ho dX12_as_85 rfl (by decide) ?_
    exact a_iret ho dX12_as_87 (rI hr0 (ro_el h)) hs0
  · replace h := if_f hc78 h
    refine a_iload_n ho dX12_as_81 rfl rfl 1 rfl ?_
    refine a_goto (tgt := 87) ho dX12_as_82 rfl ?_
    exact a_iret ho dX12_as_87 (rI hr0 (ro_el h)) hs0
theorem T_X12_as_69 {G : gM} (ho : gOk G "WaxClothModel" cX12_as 3 (some .int) 5) {r0 : Int32} (hr0 : gv0 G = some (.int r0)) {σ : gS} (hs0 : gs0 G = σ) {x1 : Int32} (h : F_X12_as_69 x1 σ = some r0) : gAt G 69 [(1, .int x1)] [] σ := by
  unfold F_X12_as_69 at h
  refine a_iconst (v := 1) ho dX12_as_69 rfl (by decide) ?_
  refine a_goto (tgt := 74) ho dX12_as_70 rfl ?_
  exact a_sub [0] rfl (T_X12_as_74 ho hr0 hs0 h)
theorem T_X12_as_73 {G : gM} (ho : gOk G "WaxClothModel" cX12_as 3 (some .int) 5) {r0 : Int32} (hr0 : gv0 G = some (.int r0)) {σ : gS} (hs0 : gs0 G = σ) {x1 : Int32} (h : F_X12_as_73 x1 σ = some r0) : gAt G 73 [(1, .int x1)] [] σ := by
  unfold F_X12_as_73 at h
  refine a_iconst (v := 0) ho dX12_as_73 rfl (by decide) ?_
  exact a_sub [0] rfl (T_X12_as_74 ho hr0 hs0 h)
theorem T_X12_as_59 {G : gM} (ho : gOk G "WaxClothModel" cX12_as 3 (some .int) 5) {r0 : Int32} (hr0 : gv0 G = some (.int r0)) {σ : gS} (hs0 : gs0 G = σ) {x1 : Int32} {x2 : Int32} {x3 : Int32} (h : F_X12_as_59 x1 x2 x3 σ = some r0) : gAt G 59 [(1, .int x1), (2, .int x2), (3, .int x3)] [] σ := by
  unfold F_X12_as_59 at h
  refine a_iload_n ho dX12_as_59 rfl rfl 1 rfl ?_
  refine a_iconst (v := 4) ho dX12_as_60 rfl (by decide) ?_
  refine a_icmp_ne (tgt := 73) ho dX12_as_61 rfl rfl (fun hc61 => ?_) (fun hc61 => ?_)
  · replace h := if_f hc61 h
    exact a_sub [0] rfl (T_X12_as_73 ho hr0 hs0 h)
  · replace h := if_t hc61 h
    refine a_iload_n ho dX12_as_64 rfl rfl 2 rfl ?_
    refine a_iconst (v := 5) ho dX12_as_65 rfl (by decide) ?_
    refine a_icmp_ne (tgt := 73) ho dX12_as_66 rfl rfl (fun hc66 => ?_) (fun hc66 => ?_)
    · replace h := if_f hc66 h
      exact a_sub [0] rfl (T_X12_as_73 ho hr0 hs0 h)
    · replace h := if_t hc66 h
      exact a_sub [0] rfl (T_X12_as_69 ho hr0 hs0 h)
theorem T_X12_as_0 {G : gM} (ho : gOk G "WaxClothModel" cX12_as 3 (some .int) 5) {r0 : Int32} (hr0 : gv0 G = some (.int r0)) {σ : gS} (hs0 : gs0 G = σ) {x1 : Int32} {x2 : Int32} (h : F_X12_as_0 x1 x2 σ = some r0) : gAt G 0 [(0, .ref (gad G 82)), (1, .int x1), (2, .int x2)] [] σ := by
  unfold F_X12_as_0 at h
  refine a_aload_n ho dX12_as_0 rfl rfl 0 rfl ?_
  refine a_iload_n ho dX12_as_1 rfl rfl 1 rfl ?_
  obtain ⟨r2, hq2, h⟩ := ob_el h
  refine a_callVi ho vy_X12_isSquare ml_X12_161 o_82 (C_X12_isSquare hq2) rfl rfl (by decide) (Nat.le_of_ble_eq_true rfl) dX12_as_2 rfl ?_
  refine a_if_eq (tgt := 20) ho dX12_as_5 rfl rfl (fun hc5 => ?_) (fun hc5 => ?_)
  · replace h := if_t hc5 h
    refine a_iconst (v := (-1)) ho dX12_as_20 rfl (by decide) ?_
    exact a_iret ho dX12_as_21 (rI hr0 (ro_el h)) hs0
  · replace h := if_f hc5 h
    refine a_iload_n ho dX12_as_8 rfl rfl 2 rfl ?_
    refine a_i2l ho dX12_as_9 rfl ?_
    refine a_lconst (v := 0) ho dX12_as_10 rfl (by decide) ?_
    refine a_ldc2 ho dX12_as_11 rfl kk_X12_166 ?_
    refine a_callSi ho vy_X12_in ml_X12_59 (C_X12_in (Int32.toInt64 x2) 0 5) rfl rfl (by decide) (Nat.le_of_ble_eq_true rfl) dX12_as_14 rfl ?_
    refine a_if_ne (tgt := 22) ho dX12_as_17 rfl rfl (fun hc17 => ?_) (fun hc17 => ?_)
    · replace h := if_f hc17 h
      refine a_aload_n ho dX12_as_22 rfl rfl 0 rfl ?_
      refine a_getR ho fl_X12_7 o_82 fr_10_0 dX12_as_23 rfl ?_
      refine a_iconst (v := 3) ho dX12_as_26 rfl (by decide) ?_
      refine a_iload_n ho dX12_as_27 rfl rfl 1 rfl ?_
      refine a_iadd ho dX12_as_28 rfl ?_
      obtain ⟨hk29, h⟩ := ck_el h
      refine a_iald ho i_83 hk29 dX12_as_29 rfl ?_
      obtain ⟨x30, hb30, h⟩ := bd_el h
      refine a_nmI hb30 ?_
      refine a_istore_n (L' := [(3, .int x30), (0, .ref (gad G 82)), (1, .int x1), (2, .int x2)]) ho dX12_as_30 rfl rfl (by decide) rfl ?_
      refine a_iload_n ho dX12_as_31 rfl rfl 3 rfl ?_
      refine a_if_eq (tgt := 69) ho dX12_as_32 rfl rfl (fun hc32 => ?_) (fun hc32 => ?_)
      · replace h := if_t hc32 h
        exact a_sub [2] rfl (T_X12_as_69 ho hr0 hs0 h)
      · replace h := if_f hc32 h
        refine a_iload_n ho dX12_as_35 rfl rfl 3 rfl ?_
        refine a_iload_n ho dX12_as_36 rfl rfl 0 rfl ?_
        refine a_icmp_eq (tgt := 69) ho dX12_as_37 rfl rfl (fun hc37 => ?_) (fun hc37 => ?_)
        · replace h := if_t hc37 h
          exact a_sub [2] rfl (T_X12_as_69 ho hr0 hs0 h)
        · replace h := if_f hc37 h
          refine a_iload_n ho dX12_as_40 rfl rfl 3 rfl ?_
          refine a_iconst (v := 1) ho dX12_as_41 rfl (by decide) ?_
          refine a_icmp_ne (tgt := 59) ho dX12_as_42 rfl rfl (fun hc42 => ?_) (fun hc42 => ?_)
          · replace h := if_f hc42 h
            exact a_sub [2, 3, 0] rfl (T_X12_as_59 ho hr0 hs0 h)
          · replace h := if_t hc42 h
            refine a_iload_n ho dX12_as_45 rfl rfl 0 rfl ?_
            refine a_i2l ho dX12_as_46 rfl ?_
            refine a_ldc2 ho dX12_as_47 rfl kk_X12_168 ?_
            refine a_ldc2 ho dX12_as_50 rfl kk_X12_170 ?_
            refine a_callSi ho vy_X12_in ml_X12_59 (C_X12_in (Int32.toInt64 x30) 2 3) rfl rfl (by decide) (Nat.le_of_ble_eq_true rfl) dX12_as_53 rfl ?_
            refine a_if_ne (tgt := 69) ho dX12_as_56 rfl rfl (fun hc56 => ?_) (fun hc56 => ?_)
            · replace h := if_f hc56 h
              exact a_sub [2] rfl (T_X12_as_69 ho hr0 hs0 h)
            · replace h := if_t hc56 h
              exact a_sub [2, 3, 0] rfl (T_X12_as_59 ho hr0 hs0 h)
    · replace h := if_t hc17 h
      refine a_iconst (v := (-1)) ho dX12_as_20 rfl (by decide) ?_
      exact a_iret ho dX12_as_21 (rI hr0 (ro_el h)) hs0
theorem C_X12_as {l : Launch} {X : gX} {σ : gS} {r0 : Int32} {a1 : Int32} {a2 : Int32} (h : F_X12_as_0 a1 a2 σ = some r0) : gCt l X yX12_as (.code yX12_as cX12_as 5 (some .int)) 3 [.ref (X.2.2.1 82), .int a1, .int a2] σ (some (.int r0)) σ :=
  gCt_of cX12_as (by decide) (Nat.le_of_ble_eq_true rfl) (fun G hl hX hv hs ho => by subst hl; subst hX; exact a_sub [0, 1, 2] rfl (T_X12_as_0 ho hv hs h))
theorem T_X12_dye_0 {G : gM} (ho : gOk G "WaxClothModel" cX12_dye 3 (some .int) 3) {r0 : Int32} (hr0 : gv0 G = some (.int r0)) {σ : gS} (hs0 : gs0 G = σ) {x1 : Int32} {x2 : Int32} (h : F_X12_dye_0 x1 x2 σ = some r0) : gAt G 0 [(0, .ref (gad G 82)), (1, .int x1), (2, .int x2)] [] σ := by
  unfold F_X12_dye_0 at h
  refine a_aload_n ho dX12_dye_0 rfl rfl 0 rfl ?_
  refine a_iload_n ho dX12_dye_1 rfl rfl 1 rfl ?_
  obtain ⟨r2, hq2, h⟩ := ob_el h
  refine a_callVi ho vy_X12_isDye ml_X12_172 o_82 (C_X12_isDye hq2) rfl rfl (by decide) (Nat.le_of_ble_eq_true rfl) dX12_dye_2 rfl ?_
  refine a_if_eq (tgt := 36) ho dX12_dye_5 rfl rfl (fun hc5 => ?_) (fun hc5 => ?_)
  · replace h := if_t hc5 h
    refine a_iconst (v := (-1)) ho dX12_dye_36 rfl (by decide) ?_
    exact a_iret ho dX12_dye_37 (rI hr0 (ro_el h)) hs0
  · replace h := if_f hc5 h
    refine a_iload_n ho dX12_dye_8 rfl rfl 2 rfl ?_
    refine a_i2l ho dX12_dye_9 rfl ?_
    refine a_lconst (v := 0) ho dX12_dye_10 rfl (by decide) ?_
    refine a_ldc2 ho dX12_dye_11 rfl kk_X12_168 ?_
    refine a_callSi ho vy_X12_in ml_X12_59 (C_X12_in (Int32.toInt64 x2) 0 2) rfl rfl (by decide) (Nat.le_of_ble_eq_true rfl) dX12_dye_14 rfl ?_
    refine a_if_eq (tgt := 36) ho dX12_dye_17 rfl rfl (fun hc17 => ?_) (fun hc17 => ?_)
    · replace h := if_t hc17 h
      refine a_iconst (v := (-1)) ho dX12_dye_36 rfl (by decide) ?_
      exact a_iret ho dX12_dye_37 (rI hr0 (ro_el h)) hs0
    · replace h := if_f hc17 h
      refine a_aload_n ho dX12_dye_20 rfl rfl 0 rfl ?_
      refine a_getR ho fl_X12_7 o_82 fr_10_0 dX12_dye_21 rfl ?_
      refine a_bipush (v := 11) ho dX12_dye_24 rfl (by decide) ?_
      refine a_iconst (v := 3) ho dX12_dye_26 rfl (by decide) ?_
      refine a_iload_n ho dX12_dye_27 rfl rfl 1 rfl ?_
      refine a_imul ho dX12_dye_28 rfl ?_
      refine a_iadd ho dX12_dye_29 rfl ?_
      refine a_iload_n ho dX12_dye_30 rfl rfl 2 rfl ?_
      refine a_iadd ho dX12_dye_31 rfl ?_
      obtain ⟨hk32, h⟩ := ck_el h
      refine a_iald ho i_83 hk32 dX12_dye_32 rfl ?_
      refine a_goto (tgt := 37) ho dX12_dye_33 rfl ?_
      exact a_iret ho dX12_dye_37 (rI hr0 (ro_el h)) hs0
theorem C_X12_dye {l : Launch} {X : gX} {σ : gS} {r0 : Int32} {a1 : Int32} {a2 : Int32} (h : F_X12_dye_0 a1 a2 σ = some r0) : gCt l X yX12_dye (.code yX12_dye cX12_dye 3 (some .int)) 3 [.ref (X.2.2.1 82), .int a1, .int a2] σ (some (.int r0)) σ :=
  gCt_of cX12_dye (by decide) (Nat.le_of_ble_eq_true rfl) (fun G hl hX hv hs ho => by subst hl; subst hX; exact a_sub [0, 1, 2] rfl (T_X12_dye_0 ho hv hs h))
theorem T_X12_stencil_0 {G : gM} (ho : gOk G "WaxClothModel" cX12_stencil 2 (some .int) 2) {r0 : Int32} (hr0 : gv0 G = some (.int r0)) {σ : gS} (hs0 : gs0 G = σ) {x1 : Int32} (h : F_X12_stencil_0 x1 σ = some r0) : gAt G 0 [(0, .ref (gad G 82)), (1, .int x1)] [] σ := by
  unfold F_X12_stencil_0 at h
  refine a_iload_n ho dX12_stencil_0 rfl rfl 1 rfl ?_
  refine a_i2l ho dX12_stencil_1 rfl ?_
  refine a_lconst (v := 0) ho dX12_stencil_2 rfl (by decide) ?_
  refine a_aload_n ho dX12_stencil_3 rfl rfl 0 rfl ?_
  refine a_getR ho fl_X12_7 o_82 fr_10_0 dX12_stencil_4 rfl ?_
  refine a_iconst (v := 2) ho dX12_stencil_7 rfl (by decide) ?_
  refine a_iald ho i_83 (by decide) dX12_stencil_8 rfl ?_
  refine a_nmI (x := σ.1 83 2) rfl ?_
  refine a_iconst (v := 1) ho dX12_stencil_9 rfl (by decide) ?_
  refine a_isub ho dX12_stencil_10 rfl ?_
  refine a_i2l ho dX12_stencil_11 rfl ?_
  refine a_callSi ho vy_X12_in ml_X12_59 (C_X12_in (Int32.toInt64 x1) 0 (Int32.toInt64 ((σ.1 83 2) - 1))) rfl rfl (by decide) (Nat.le_of_ble_eq_true rfl) dX12_stencil_12 rfl ?_
  refine a_if_eq (tgt := 30) ho dX12_stencil_15 rfl rfl (fun hc15 => ?_) (fun hc15 => ?_)
  · replace h := if_t hc15 h
    refine a_iconst (v := (-1)) ho dX12_stencil_30 rfl (by decide) ?_
    exact a_iret ho dX12_stencil_31 (rI hr0 (ro_el h)) hs0
  · replace h := if_f hc15 h
    refine a_aload_n ho dX12_stencil_18 rfl rfl 0 rfl ?_
    refine a_getR ho fl_X12_7 o_82 fr_10_0 dX12_stencil_19 rfl ?_
    refine a_bipush (v := 23) ho dX12_stencil_22 rfl (by decide) ?_
    refine a_iload_n ho dX12_stencil_24 rfl rfl 1 rfl ?_
    refine a_iadd ho dX12_stencil_25 rfl ?_
    obtain ⟨hk26, h⟩ := ck_el h
    refine a_iald ho i_83 hk26 dX12_stencil_26 rfl ?_
    refine a_goto (tgt := 31) ho dX12_stencil_27 rfl ?_
    exact a_iret ho dX12_stencil_31 (rI hr0 (ro_el h)) hs0
theorem C_X12_stencil {l : Launch} {X : gX} {σ : gS} {r0 : Int32} {a1 : Int32} (h : F_X12_stencil_0 a1 σ = some r0) : gCt l X yX12_stencil (.code yX12_stencil cX12_stencil 2 (some .int)) 2 [.ref (X.2.2.1 82), .int a1] σ (some (.int r0)) σ :=
  gCt_of cX12_stencil (by decide) (Nat.le_of_ble_eq_true rfl) (fun G hl hX hv hs ho => by subst hl; subst hX; exact a_sub [0, 1] rfl (T_X12_stencil_0 ho hv hs h))
theorem T_X12_takes_0 {G : gM} (ho : gOk G "WaxClothModel" cX12_takes 4 (some .int) 4) {r0 : Int32} (hr0 : gv0 G = some (.int r0)) {σ : gS} (hs0 : gs0 G = σ) {x1 : Int32} {x2 : Int32} {x3 : Int32} (h : F_X12_takes_0 x1 x2 x3 σ = some r0) : gAt G 0 [(0, .ref (gad G 82)), (1, .int x1), (2, .int x2), (3, .int x3)] [] σ := by
  unfold F_X12_takes_0 at h
  refine a_aload_n ho dX12_takes_0 rfl rfl 0 rfl ?_
  refine a_iload_n ho dX12_takes_1 rfl rfl 1 rfl ?_
  obtain ⟨r2, hq2, h⟩ := ob_el h
  refine a_callVi ho vy_X12_isSquare ml_X12_161 o_82 (C_X12_isSquare hq2) rfl rfl (by decide) (Nat.le_of_ble_eq_true rfl) dX12_takes_2 rfl ?_
  refine a_if_eq (tgt := 42) ho dX12_takes_5 rfl rfl (fun hc5 => ?_) (fun hc5 => ?_)
  · replace h := if_t hc5 h
    refine a_iconst (v := (-1)) ho dX12_takes_42 rfl (by decide) ?_
    exact a_iret ho dX12_takes_43 (rI hr0 (ro_el h)) hs0
  · replace h := if_f hc5 h
    refine a_aload_n ho dX12_takes_8 rfl rfl 0 rfl ?_
    refine a_iload_n ho dX12_takes_9 rfl rfl 2 rfl ?_
    obtain ⟨r10, hq10, h⟩ := ob_el h
    refine a_callVi ho vy_X12_isDye ml_X12_172 o_82 (C_X12_isDye hq10) rfl rfl (by decide) (Nat.le_of_ble_eq_true rfl) dX12_takes_10 rfl ?_
    refine a_if_eq (tgt := 42) ho dX12_takes_13 rfl rfl (fun hc13 => ?_) (fun hc13 => ?_)
    · replace h := if_t hc13 h
      refine a_iconst (v := (-1)) ho dX12_takes_42 rfl (by decide) ?_
      exact a_iret ho dX12_takes_43 (rI hr0 (ro_el h)) hs0
    · replace h := if_f hc13 h
      refine a_iload_n ho dX12_takes_16 rfl rfl 3 rfl ?_
      refine a_i2l ho dX12_takes_17 rfl ?_
      refine a_lconst (v := 0) ho dX12_takes_18 rfl (by decide) ?_
      refine a_ldc2 ho dX12_takes_19 rfl kk_X12_168 ?_
      refine a_callSi ho vy_X12_in ml_X12_59 (C_X12_in (Int32.toInt64 x3) 0 2) rfl rfl (by decide) (Nat.le_of_ble_eq_true rfl) dX12_takes_22 rfl ?_
      refine a_if_eq (tgt := 42) ho dX12_takes_25 rfl rfl (fun hc25 => ?_) (fun hc25 => ?_)
      · replace h := if_t hc25 h
        refine a_iconst (v := (-1)) ho dX12_takes_42 rfl (by decide) ?_
        exact a_iret ho dX12_takes_43 (rI hr0 (ro_el h)) hs0
      · replace h := if_f hc25 h
        refine a_aload_n ho dX12_takes_28 rfl rfl 0 rfl ?_
        refine a_aload_n ho dX12_takes_29 rfl rfl 0 rfl ?_
        refine a_getR ho fl_X12_19 o_82 fr_10_3 dX12_takes_30 rfl ?_
        refine a_iload_n ho dX12_takes_33 rfl rfl 1 rfl ?_
        refine a_iload_n ho dX12_takes_34 rfl rfl 2 rfl ?_
        refine a_iload_n ho dX12_takes_35 rfl rfl 3 rfl ?_
        obtain ⟨r36, hq36, h⟩ := ob_el h
        refine a_callVi ho vy_X12_takenOn ml_X12_137 o_82 (C_X12_takenOn i_86 hq36) rfl rfl (by decide) (Nat.le_of_ble_eq_true rfl) dX12_takes_36 rfl ?_
        refine a_goto (tgt := 43) ho dX12_takes_39 rfl ?_
        exact a_iret ho dX12_takes_43 (rI hr0 (ro_el h)) hs0
theorem C_X12_takes {l : Launch} {X : gX} {σ : gS} {r0 : Int32} {a1 : Int32} {a2 : Int32} {a3 : Int32} (h : F_X12_takes_0 a1 a2 a3 σ = some r0) : gCt l X yX12_takes (.code yX12_takes cX12_takes 4 (some .int)) 4 [.ref (X.2.2.1 82), .int a1, .int a2, .int a3] σ (some (.int r0)) σ :=
  gCt_of cX12_takes (by decide) (Nat.le_of_ble_eq_true rfl) (fun G hl hX hv hs ho => by subst hl; subst hX; exact a_sub [0, 1, 2, 3] rfl (T_X12_takes_0 ho hv hs h))
theorem T_X12_does_73 {G : gM} (ho : gOk G "WaxClothModel" cX12_does 7 (some .int) 3) {r0 : Int32} (hr0 : gv0 G = some (.int r0)) {σ0 : gS} (hs0 : gs0 G = σ0) {x1 : Int32} {σ : gS} (h : F_X12_does_73 x1 σ = some (r0, σ0)) : gAt G 73 [(0, .ref (gad G 82)), (1, .int x1)] [] σ := by
  unfold F_X12_does_73 at h
  refine a_aload_n ho dX12_does_73 rfl rfl 0 rfl ?_
  refine a_getR ho fl_X12_19 o_82 fr_10_3 dX12_does_74 rfl ?_
  refine a_iconst (v := 0) ho dX12_does_77 rfl (by decide) ?_
  refine a_aload_n ho dX12_does_78 rfl rfl 0 rfl ?_
  refine a_getR ho fl_X12_25 o_82 fr_10_6 dX12_does_79 rfl ?_
  refine a_bipush (v := 32) ho dX12_does_82 rfl (by decide) ?_
  refine a_aload_n ho dX12_does_84 rfl rfl 0 rfl ?_
  refine a_getI ho fl_X12_112 o_82 (ff_10_7 _ o_82) dX12_does_85 rfl ?_
  refine a_imul ho dX12_does_88 rfl ?_
  refine a_bipush (v := 32) ho dX12_does_89 rfl (by decide) ?_
  obtain ⟨σ91, hq91, h⟩ := ob_el h
  refine a_callSv ho vy_X12_copies ml_X12_105 (C_X12_copies (isI_ln i_86) (isI_ln i_88) hq91) rfl rfl (by decide) (Nat.le_of_ble_eq_true rfl) dX12_does_91 rfl ?_
  refine a_aload_n ho dX12_does_94 rfl rfl 0 rfl ?_
  refine a_dup ho dX12_does_95 rfl rfl ?_
  refine a_getI ho fl_X12_112 o_82 (ff_10_7 _ o_82) dX12_does_96 rfl ?_
  refine a_iconst (v := 1) ho dX12_does_99 rfl (by decide) ?_
  refine a_iadd ho dX12_does_100 rfl ?_
  refine a_putI ho fp_X12_112 o_82 (ff_10_7 _ o_82) dX12_does_101 rfl ?_
  obtain ⟨σ101, hs101, h⟩ := bd_el h
  refine a_nmS hs101 ?_
  refine a_aload_n ho dX12_does_104 rfl rfl 0 rfl ?_
  refine a_dup ho dX12_does_105 rfl rfl ?_
  refine a_getI ho fl_X12_109 o_82 (ff_10_5 _ o_82) dX12_does_106 rfl ?_
  refine a_iconst (v := 1) ho dX12_does_109 rfl (by decide) ?_
  refine a_iadd ho dX12_does_110 rfl ?_
  refine a_putI ho fp_X12_109 o_82 (ff_10_5 _ o_82) dX12_does_111 rfl ?_
  obtain ⟨σ111, hs111, h⟩ := bd_el h
  refine a_nmS hs111 ?_
  refine a_aload_n ho dX12_does_114 rfl rfl 0 rfl ?_
  refine a_aload_n ho dX12_does_115 rfl rfl 0 rfl ?_
  refine a_getR ho fl_X12_19 o_82 fr_10_3 dX12_does_116 rfl ?_
  refine a_iload_n ho dX12_does_119 rfl rfl 1 rfl ?_
  obtain ⟨σ120, hq120, h⟩ := ob_el h
  refine a_callVv ho vy_X12_doesAll ml_X12_179 o_82 (C_X12_doesAll i_86 hq120) rfl rfl (by decide) (Nat.le_of_ble_eq_true rfl) dX12_does_120 rfl ?_
  refine a_aload_n ho dX12_does_123 rfl rfl 0 rfl ?_
  refine a_aload_n ho dX12_does_124 rfl rfl 0 rfl ?_
  refine a_getR ho fl_X12_19 o_82 fr_10_3 dX12_does_125 rfl ?_
  obtain ⟨r128, hq128, h⟩ := ob_el h
  refine a_callVi ho vy_X12_rightOn ml_X12_182 o_82 (C_X12_rightOn i_86 hq128) rfl rfl (by decide) (Nat.le_of_ble_eq_true rfl) dX12_does_128 rfl ?_
  exact a_iret ho dX12_does_131 (rI hr0 (re_el h).1) (rS hs0 (re_el h).2)
theorem T_X12_does_35 {G : gM} (ho : gOk G "WaxClothModel" cX12_does 7 (some .int) 3) {r0 : Int32} (hr0 : gv0 G = some (.int r0)) {σ0 : gS} (hs0 : gs0 G = σ0) : ∀ (n : Nat) (x1 : Int32) (x2 : Int32) (σ : gS), F_X12_does_35 n x1 x2 σ = some (r0, σ0) → gAt G 35 [(0, .ref (gad G 82)), (1, .int x1), (2, .int x2)] [] σ := by
  intro n
  induction n with
  | zero => intro x1 x2 σ h; cases h
  | succ n ih =>
    intro x1 x2 σ h
    unfold F_X12_does_35 at h
    refine a_iload_n ho dX12_does_35 rfl rfl 2 rfl ?_
    refine a_sipush (v := 736) ho dX12_does_36 rfl (by decide) ?_
    refine a_icmp_ge (tgt := 63) ho dX12_does_39 rfl rfl (fun hc39 => ?_) (fun hc39 => ?_)
    · replace h := if_t hc39 h
      refine a_aload_n ho dX12_does_63 rfl rfl 0 rfl ?_
      refine a_dup ho dX12_does_64 rfl rfl ?_
      refine a_getI ho fl_X12_112 o_82 (ff_10_7 _ o_82) dX12_does_65 rfl ?_
      refine a_iconst (v := 1) ho dX12_does_68 rfl (by decide) ?_
      refine a_isub ho dX12_does_69 rfl ?_
      refine a_putI ho fp_X12_112 o_82 (ff_10_7 _ o_82) dX12_does_70 rfl ?_
      obtain ⟨σ70, hs70, h⟩ := bd_el h
      refine a_nmS hs70 ?_
      exact a_sub [0, 1] rfl (T_X12_does_73 ho hr0 hs0 h)
    · replace h := if_f hc39 h
      refine a_aload_n ho dX12_does_42 rfl rfl 0 rfl ?_
      refine a_getR ho fl_X12_25 o_82 fr_10_6 dX12_does_43 rfl ?_
      refine a_iload_n ho dX12_does_46 rfl rfl 2 rfl ?_
      refine a_aload_n ho dX12_does_47 rfl rfl 0 rfl ?_
      refine a_getR ho fl_X12_25 o_82 fr_10_6 dX12_does_48 rfl ?_
      refine a_iload_n ho dX12_does_51 rfl rfl 2 rfl ?_
      refine a_bipush (v := 32) ho dX12_does_52 rfl (by decide) ?_
      refine a_iadd ho dX12_does_54 rfl ?_
      obtain ⟨hk55, h⟩ := ck_el h
      refine a_iald ho i_88 hk55 dX12_does_55 rfl ?_
      obtain ⟨hk56, h⟩ := ck_el h
      refine a_iast ho i_88 hk56 dX12_does_56 rfl ?_
      obtain ⟨σ56, hs56, h⟩ := bd_el h
      refine a_nmS hs56 ?_
      obtain ⟨x57, hb57, h⟩ := bd_el h
      refine a_iinc (L' := [(2, .int x57), (0, .ref (gad G 82)), (1, .int x1)]) ho dX12_does_57 rfl 2 rfl hb57 (by decide) rfl ?_
      refine a_goto (tgt := 35) ho dX12_does_60 rfl ?_
      exact a_sub [1, 2, 0] rfl (ih _ _ _ h)
theorem T_X12_does_0 {G : gM} (ho : gOk G "WaxClothModel" cX12_does 7 (some .int) 3) {r0 : Int32} (hr0 : gv0 G = some (.int r0)) {σ0 : gS} (hs0 : gs0 G = σ0) {x1 : Int32} {σ : gS} (h : F_X12_does_0 x1 σ = some (r0, σ0)) : gAt G 0 [(0, .ref (gad G 82)), (1, .int x1)] [] σ := by
  unfold F_X12_does_0 at h
  refine a_aload_n ho dX12_does_0 rfl rfl 0 rfl ?_
  refine a_iload_n ho dX12_does_1 rfl rfl 1 rfl ?_
  refine a_i2l ho dX12_does_2 rfl ?_
  obtain ⟨r3, hq3, h⟩ := ob_el h
  refine a_callVi ho vy_X12_isDoing ml_X12_175 o_82 (C_X12_isDoing hq3) rfl rfl (by decide) (Nat.le_of_ble_eq_true rfl) dX12_does_3 rfl ?_
  refine a_if_ne (tgt := 11) ho dX12_does_6 rfl rfl (fun hc6 => ?_) (fun hc6 => ?_)
  · replace h := if_f hc6 h
    refine a_aload_n ho dX12_does_11 rfl rfl 0 rfl ?_
    refine a_getI ho fl_X12_109 o_82 (ff_10_5 _ o_82) dX12_does_12 rfl ?_
    refine a_sipush (v := 9999) ho dX12_does_15 rfl (by decide) ?_
    refine a_icmp_ne (tgt := 24) ho dX12_does_18 rfl rfl (fun hc18 => ?_) (fun hc18 => ?_)
    · replace h := if_f hc18 h
      refine a_aload_n ho dX12_does_24 rfl rfl 0 rfl ?_
      refine a_getI ho fl_X12_112 o_82 (ff_10_7 _ o_82) dX12_does_25 rfl ?_
      refine a_bipush (v := 24) ho dX12_does_28 rfl (by decide) ?_
      refine a_icmp_ne (tgt := 73) ho dX12_does_30 rfl rfl (fun hc30 => ?_) (fun hc30 => ?_)
      · replace h := if_f hc30 h
        exact a_sub [0, 1] rfl (T_X12_does_73 ho hr0 hs0 h)
      · replace h := if_t hc30 h
        refine a_iconst (v := 0) ho dX12_does_33 rfl (by decide) ?_
        refine a_istore_n (L' := [(2, .int 0), (0, .ref (gad G 82)), (1, .int x1)]) ho dX12_does_34 rfl rfl (by decide) rfl ?_
        exact a_sub [1, 2, 0] rfl (T_X12_does_35 ho hr0 hs0 _ _ _ _ h)
    · replace h := if_t hc18 h
      refine a_bipush (v := (-3)) ho dX12_does_21 rfl (by decide) ?_
      exact a_iret ho dX12_does_23 (rI hr0 (re_el h).1) (rS hs0 (re_el h).2)
  · replace h := if_t hc6 h
    refine a_iconst (v := (-1)) ho dX12_does_9 rfl (by decide) ?_
    exact a_iret ho dX12_does_10 (rI hr0 (re_el h).1) (rS hs0 (re_el h).2)
theorem C_X12_does {l : Launch} {X : gX} {σ σ0 : gS} {r0 : Int32} {a1 : Int32} (h : F_X12_does_0 a1 σ = some (r0, σ0)) : gCt l X yX12_does (.code yX12_does cX12_does 3 (some .int)) 7 [.ref (X.2.2.1 82), .int a1] σ (some (.int r0)) σ0 :=
  gCt_of cX12_does (by decide) (Nat.le_of_ble_eq_true rfl) (fun G hl hX hv hs ho => by subst hl; subst hX; exact a_sub [0, 1] rfl (T_X12_does_0 ho hv hs h))
