theorem T_X12_wishes_97 {G : gM} (ho : gOk G "WaxClothModel" cX12_wishes 3 (some .int) 7) {r0 : Int32} (hr0 : gv0 G = some (.int r0)) {σ : gS} (hs0 : gs0 G = σ) {g48 : Int32 → Int32 → Int32 → Int32 → gS → Option Int32} (hg48 : ∀ (x1 : Int32) (x3 : Int32) (x5 : Int32) (x6 : Int32), g48 x1 x3 x5 x6 σ = some r0 → gAt G 48 [(0, .ref (gad G 82)), (1, .int x1), (3, .int x3), (5, .int x5), (6, .int x6)] [] σ) {x1 : Int32} {x3 : Int32} {x6 : Int32} {y0 : Int32} {y1 : Int32} (h : F_X12_wishes_97 g48 x1 x3 x6 y0 y1 σ = some r0) : gAt G 97 [(0, .ref (gad G 82)), (1, .int x1), (3, .int x3), (6, .int x6)] [.int y0, .int y1] σ := by
  unfold F_X12_wishes_97 at h
  refine a_ior ho dX12_wishes_97 rfl ?_
  obtain ⟨x98, hb98, h⟩ := bd_el h
  refine a_nmI hb98 ?_
  refine a_istore (L' := [(5, .int x98), (0, .ref (gad G 82)), (1, .int x1), (3, .int x3), (6, .int x6)]) ho dX12_wishes_98 rfl (by decide) rfl ?_
  obtain ⟨x100, hb100, h⟩ := bd_el h
  refine a_iinc (L' := [(6, .int x100), (5, .int x98), (0, .ref (gad G 82)), (1, .int x1), (3, .int x3)]) ho dX12_wishes_100 rfl 4 rfl hb100 (by decide) rfl ?_
  refine a_goto (tgt := 48) ho dX12_wishes_103 rfl ?_
  exact a_sub [2, 3, 4, 1, 0] rfl (hg48 _ _ _ _ h)
theorem T_X12_wishes_48 {G : gM} (ho : gOk G "WaxClothModel" cX12_wishes 3 (some .int) 7) {r0 : Int32} (hr0 : gv0 G = some (.int r0)) {σ : gS} (hs0 : gs0 G = σ) : ∀ (n : Nat) (x1 : Int32) (x3 : Int32) (x5 : Int32) (x6 : Int32), F_X12_wishes_48 n x1 x3 x5 x6 σ = some r0 → gAt G 48 [(0, .ref (gad G 82)), (1, .int x1), (3, .int x3), (5, .int x5), (6, .int x6)] [] σ := by
  intro n
  induction n with
  | zero => intro x1 x3 x5 x6 h; cases h
  | succ n ih =>
    intro x1 x3 x5 x6 h
    unfold F_X12_wishes_48 at h
    refine a_iload ho dX12_wishes_48 rfl 4 rfl ?_
    refine a_aload_n ho dX12_wishes_50 rfl rfl 0 rfl ?_
    refine a_getR ho fl_X12_7 o_82 fr_10_0 dX12_wishes_51 rfl ?_
    refine a_iconst (v := 0) ho dX12_wishes_54 rfl (by decide) ?_
    refine a_iald ho i_83 (by decide) dX12_wishes_55 rfl ?_
    refine a_nmI (x := σ.1 83 0) rfl ?_
    refine a_icmp_ge (tgt := 106) ho dX12_wishes_56 rfl rfl (fun hc56 => ?_) (fun hc56 => ?_)
    · replace h := if_t hc56 h
      refine a_iload ho dX12_wishes_106 rfl 3 rfl ?_
      exact a_iret ho dX12_wishes_108 (rI hr0 (ro_el h)) hs0
    · replace h := if_f hc56 h
      refine a_iload ho dX12_wishes_59 rfl 3 rfl ?_
      refine a_aload_n ho dX12_wishes_61 rfl rfl 0 rfl ?_
      refine a_getR ho fl_X12_19 o_82 fr_10_3 dX12_wishes_62 rfl ?_
      refine a_iload ho dX12_wishes_65 rfl 4 rfl ?_
      obtain ⟨r67, hq67, h⟩ := ob_el h
      refine a_callSi ho vy_X12_hueOf ml_X12_115 (C_X12_hueOf i_86 hq67) rfl rfl (by decide) (Nat.le_of_ble_eq_true rfl) dX12_wishes_67 rfl ?_
      refine a_i2l ho dX12_wishes_70 rfl ?_
      refine a_aload_n ho dX12_wishes_71 rfl rfl 0 rfl ?_
      refine a_getR ho fl_X12_44 o_82 fr_10_14 dX12_wishes_72 rfl ?_
      refine a_bipush (v := 24) ho dX12_wishes_75 rfl (by decide) ?_
      refine a_iload_n ho dX12_wishes_77 rfl rfl 1 rfl ?_
      refine a_imul ho dX12_wishes_78 rfl ?_
      refine a_iload_n ho dX12_wishes_79 rfl rfl 2 rfl ?_
      refine a_iadd ho dX12_wishes_80 rfl ?_
      refine a_iload ho dX12_wishes_81 rfl 4 rfl ?_
      refine a_iadd ho dX12_wishes_83 rfl ?_
      obtain ⟨hk84, h⟩ := ck_el h
      refine a_lald ho j_94 hk84 dX12_wishes_84 rfl ?_
      refine a_lcmp ho dX12_wishes_85 rfl ?_
      refine a_if_ne (tgt := 96) ho dX12_wishes_86 rfl rfl (fun hc86 => ?_) (fun hc86 => ?_)
      · replace h := if_f hc86 h
        refine a_iconst (v := 0) ho dX12_wishes_96 rfl (by decide) ?_
        exact a_sub [0, 1, 2, 4] rfl (T_X12_wishes_97 ho hr0 hs0 ih h)
      · replace h := if_t hc86 h
        refine a_iconst (v := 1) ho dX12_wishes_89 rfl (by decide) ?_
        refine a_iload ho dX12_wishes_90 rfl 4 rfl ?_
        refine a_ishl ho dX12_wishes_92 rfl ?_
        refine a_goto (tgt := 97) ho dX12_wishes_93 rfl ?_
        exact a_sub [0, 1, 2, 4] rfl (T_X12_wishes_97 ho hr0 hs0 ih h)
theorem T_X12_wishes_0 {G : gM} (ho : gOk G "WaxClothModel" cX12_wishes 3 (some .int) 7) {r0 : Int32} (hr0 : gv0 G = some (.int r0)) {σ : gS} (hs0 : gs0 G = σ) {x1 : Int32} {x2 : Int32} {x3 : Int32} (h : F_X12_wishes_0 x1 x2 x3 σ = some r0) : gAt G 0 [(0, .ref (gad G 82)), (1, .int x1), (2, .int x2), (3, .int x3)] [] σ := by
  unfold F_X12_wishes_0 at h
  refine a_aload_n ho dX12_wishes_0 rfl rfl 0 rfl ?_
  refine a_getR ho fl_X12_7 o_82 fr_10_0 dX12_wishes_1 rfl ?_
  refine a_iconst (v := 0) ho dX12_wishes_4 rfl (by decide) ?_
  refine a_iald ho i_83 (by decide) dX12_wishes_5 rfl ?_
  refine a_nmI (x := σ.1 83 0) rfl ?_
  refine a_if_eq (tgt := 17) ho dX12_wishes_6 rfl rfl (fun hc6 => ?_) (fun hc6 => ?_)
  · replace h := if_t hc6 h
    refine a_iconst (v := (-1)) ho dX12_wishes_17 rfl (by decide) ?_
    exact a_iret ho dX12_wishes_18 (rI hr0 (ro_el h)) hs0
  · replace h := if_f hc6 h
    refine a_iload_n ho dX12_wishes_9 rfl rfl 1 rfl ?_
    refine a_iload_n ho dX12_wishes_10 rfl rfl 2 rfl ?_
    refine a_callSi ho vy_X12_isSheet ml_X12_225 (C_X12_isSheet x1 x2) rfl rfl (by decide) (Nat.le_of_ble_eq_true rfl) dX12_wishes_11 rfl ?_
    refine a_if_ne (tgt := 19) ho dX12_wishes_14 rfl rfl (fun hc14 => ?_) (fun hc14 => ?_)
    · replace h := if_f hc14 h
      refine a_aload_n ho dX12_wishes_19 rfl rfl 0 rfl ?_
      refine a_iload_n ho dX12_wishes_20 rfl rfl 1 rfl ?_
      refine a_iload_n ho dX12_wishes_21 rfl rfl 2 rfl ?_
      refine a_iload_n ho dX12_wishes_22 rfl rfl 3 rfl ?_
      refine a_aload_n ho dX12_wishes_23 rfl rfl 0 rfl ?_
      refine a_getR ho fl_X12_7 o_82 fr_10_0 dX12_wishes_24 rfl ?_
      refine a_iconst (v := 0) ho dX12_wishes_27 rfl (by decide) ?_
      refine a_iald ho i_83 (by decide) dX12_wishes_28 rfl ?_
      refine a_nmI (x := σ.1 83 0) rfl ?_
      obtain ⟨r29, hq29, h⟩ := ob_el h
      refine a_callVi ho vy_X12_found ml_X12_228 o_82 (C_X12_found hq29) rfl rfl (by decide) (Nat.le_of_ble_eq_true rfl) dX12_wishes_29 rfl ?_
      refine a_istore (L' := [(4, .int r29), (0, .ref (gad G 82)), (1, .int x1), (2, .int x2), (3, .int x3)]) ho dX12_wishes_32 rfl (by decide) rfl ?_
      refine a_iload ho dX12_wishes_34 rfl 0 rfl ?_
      refine a_if_ge (tgt := 42) ho dX12_wishes_36 rfl rfl (fun hc36 => ?_) (fun hc36 => ?_)
      · replace h := if_t hc36 h
        refine a_iconst (v := 0) ho dX12_wishes_42 rfl (by decide) ?_
        refine a_istore (L' := [(5, .int 0), (4, .int r29), (0, .ref (gad G 82)), (1, .int x1), (2, .int x2), (3, .int x3)]) ho dX12_wishes_43 rfl (by decide) rfl ?_
        refine a_iconst (v := 0) ho dX12_wishes_45 rfl (by decide) ?_
        refine a_istore (L' := [(6, .int 0), (5, .int 0), (4, .int r29), (0, .ref (gad G 82)), (1, .int x1), (2, .int x2), (3, .int x3)]) ho dX12_wishes_46 rfl (by decide) rfl ?_
        exact a_sub [3, 4, 6, 1, 0] rfl (T_X12_wishes_48 ho hr0 hs0 _ _ _ _ _ h)
      · replace h := if_f hc36 h
        refine a_iload ho dX12_wishes_39 rfl 0 rfl ?_
        exact a_iret ho dX12_wishes_41 (rI hr0 (ro_el h)) hs0
    · replace h := if_t hc14 h
      refine a_iconst (v := (-1)) ho dX12_wishes_17 rfl (by decide) ?_
      exact a_iret ho dX12_wishes_18 (rI hr0 (ro_el h)) hs0
theorem C_X12_wishes {l : Launch} {X : gX} {σ : gS} {r0 : Int32} {a1 : Int32} {a2 : Int32} {a3 : Int32} (h : F_X12_wishes_0 a1 a2 a3 σ = some r0) : gCt l X yX12_wishes (.code yX12_wishes cX12_wishes 7 (some .int)) 3 [.ref (X.2.2.1 82), .int a1, .int a2, .int a3] σ (some (.int r0)) σ :=
  gCt_of cX12_wishes (by decide) (Nat.le_of_ble_eq_true rfl) (fun G hl hX hv hs ho => by subst hl; subst hX; exact a_sub [0, 1, 2, 3] rfl (T_X12_wishes_0 ho hv hs h))
theorem T_X12_count_107 {G : gM} (ho : gOk G "WaxClothModel" cX12_count 4 (some .int) 4) {r0 : Int32} (hr0 : gv0 G = some (.int r0)) {σ : gS} (hs0 : gs0 G = σ) {g77 : Int32 → Int32 → gS → Option Int32} (hg77 : ∀ (x2 : Int32) (x3 : Int32), g77 x2 x3 σ = some r0 → gAt G 77 [(0, .ref (gad G 82)), (2, .int x2), (3, .int x3)] [] σ) {x3 : Int32} {y0 : Int32} {y1 : Int32} (h : F_X12_count_107 g77 x3 y0 y1 σ = some r0) : gAt G 107 [(0, .ref (gad G 82)), (3, .int x3)] [.int y0, .int y1] σ := by
  unfold F_X12_count_107 at h
  refine a_ior ho dX12_count_107 rfl ?_
  obtain ⟨x108, hb108, h⟩ := bd_el h
  refine a_nmI hb108 ?_
  refine a_istore_n (L' := [(2, .int x108), (0, .ref (gad G 82)), (3, .int x3)]) ho dX12_count_108 rfl rfl (by decide) rfl ?_
  obtain ⟨x109, hb109, h⟩ := bd_el h
  refine a_iinc (L' := [(3, .int x109), (2, .int x108), (0, .ref (gad G 82))]) ho dX12_count_109 rfl 2 rfl hb109 (by decide) rfl ?_
  refine a_goto (tgt := 77) ho dX12_count_112 rfl ?_
  exact a_sub [2, 1, 0] rfl (hg77 _ _ h)
theorem T_X12_count_77 {G : gM} (ho : gOk G "WaxClothModel" cX12_count 4 (some .int) 4) {r0 : Int32} (hr0 : gv0 G = some (.int r0)) {σ : gS} (hs0 : gs0 G = σ) : ∀ (n : Nat) (x2 : Int32) (x3 : Int32), F_X12_count_77 n x2 x3 σ = some r0 → gAt G 77 [(0, .ref (gad G 82)), (2, .int x2), (3, .int x3)] [] σ := by
  intro n
  induction n with
  | zero => intro x2 x3 h; cases h
  | succ n ih =>
    intro x2 x3 h
    unfold F_X12_count_77 at h
    refine a_iload_n ho dX12_count_77 rfl rfl 2 rfl ?_
    refine a_aload_n ho dX12_count_78 rfl rfl 0 rfl ?_
    refine a_getR ho fl_X12_7 o_82 fr_10_0 dX12_count_79 rfl ?_
    refine a_iconst (v := 0) ho dX12_count_82 rfl (by decide) ?_
    refine a_iald ho i_83 (by decide) dX12_count_83 rfl ?_
    refine a_nmI (x := σ.1 83 0) rfl ?_
    refine a_icmp_ge (tgt := 115) ho dX12_count_84 rfl rfl (fun hc84 => ?_) (fun hc84 => ?_)
    · replace h := if_t hc84 h
      refine a_iload_n ho dX12_count_115 rfl rfl 1 rfl ?_
      exact a_iret ho dX12_count_116 (rI hr0 (ro_el h)) hs0
    · replace h := if_f hc84 h
      refine a_iload_n ho dX12_count_87 rfl rfl 1 rfl ?_
      refine a_aload_n ho dX12_count_88 rfl rfl 0 rfl ?_
      refine a_getR ho fl_X12_19 o_82 fr_10_3 dX12_count_89 rfl ?_
      refine a_bipush (v := 24) ho dX12_count_92 rfl (by decide) ?_
      refine a_iload_n ho dX12_count_94 rfl rfl 2 rfl ?_
      refine a_iadd ho dX12_count_95 rfl ?_
      obtain ⟨hk96, h⟩ := ck_el h
      refine a_iald ho i_86 hk96 dX12_count_96 rfl ?_
      refine a_if_le (tgt := 106) ho dX12_count_97 rfl rfl (fun hc97 => ?_) (fun hc97 => ?_)
      · replace h := if_t hc97 h
        refine a_iconst (v := 0) ho dX12_count_106 rfl (by decide) ?_
        exact a_sub [0, 2] rfl (T_X12_count_107 ho hr0 hs0 ih h)
      · replace h := if_f hc97 h
        refine a_iconst (v := 1) ho dX12_count_100 rfl (by decide) ?_
        refine a_iload_n ho dX12_count_101 rfl rfl 2 rfl ?_
        refine a_ishl ho dX12_count_102 rfl ?_
        refine a_goto (tgt := 107) ho dX12_count_103 rfl ?_
        exact a_sub [0, 2] rfl (T_X12_count_107 ho hr0 hs0 ih h)
theorem T_X12_count_52 {G : gM} (ho : gOk G "WaxClothModel" cX12_count 4 (some .int) 4) {r0 : Int32} (hr0 : gv0 G = some (.int r0)) {σ : gS} (hs0 : gs0 G = σ) {x1 : Int32} (h : F_X12_count_52 x1 σ = some r0) : gAt G 52 [(0, .ref (gad G 82)), (1, .int x1)] [] σ := by
  unfold F_X12_count_52 at h
  refine a_aload_n ho dX12_count_52 rfl rfl 0 rfl ?_
  refine a_getR ho fl_X12_7 o_82 fr_10_0 dX12_count_53 rfl ?_
  refine a_iload_n ho dX12_count_56 rfl rfl 1 rfl ?_
  obtain ⟨hk57, h⟩ := ck_el h
  refine a_iald ho i_83 hk57 dX12_count_57 rfl ?_
  exact a_iret ho dX12_count_58 (rI hr0 (ro_el h)) hs0
theorem T_X12_count_0 {G : gM} (ho : gOk G "WaxClothModel" cX12_count 4 (some .int) 4) {r0 : Int32} (hr0 : gv0 G = some (.int r0)) {σ : gS} (hs0 : gs0 G = σ) {x1 : Int32} (h : F_X12_count_0 x1 σ = some r0) : gAt G 0 [(0, .ref (gad G 82)), (1, .int x1)] [] σ := by
  unfold F_X12_count_0 at h
  refine a_iload_n ho dX12_count_0 rfl rfl 1 rfl ?_
  by_cases hw1_0 : x1 = 0
  · replace h := if_t hw1_0 h
    refine a_tin (tgt := 52) ho 0 hw1_0 dX12_count_1 (by decide) (by decide) rfl rfl ?_
    exact a_sub [0, 1] rfl (T_X12_count_52 ho hr0 hs0 h)
  replace h := if_f hw1_0 h
  by_cases hw1_1 : x1 = 1
  · replace h := if_t hw1_1 h
    refine a_tin (tgt := 52) ho 1 hw1_1 dX12_count_1 (by decide) (by decide) rfl rfl ?_
    exact a_sub [0, 1] rfl (T_X12_count_52 ho hr0 hs0 h)
  replace h := if_f hw1_1 h
  by_cases hw1_2 : x1 = 2
  · replace h := if_t hw1_2 h
    refine a_tin (tgt := 52) ho 2 hw1_2 dX12_count_1 (by decide) (by decide) rfl rfl ?_
    exact a_sub [0, 1] rfl (T_X12_count_52 ho hr0 hs0 h)
  replace h := if_f hw1_2 h
  by_cases hw1_3 : x1 = 3
  · replace h := if_t hw1_3 h
    refine a_tin (tgt := 59) ho 3 hw1_3 dX12_count_1 (by decide) (by decide) rfl rfl ?_
    refine a_aload_n ho dX12_count_59 rfl rfl 0 rfl ?_
    refine a_getI ho fl_X12_109 o_82 (ff_10_5 _ o_82) dX12_count_60 rfl ?_
    exact a_iret ho dX12_count_63 (rI hr0 (ro_el h)) hs0
  replace h := if_f hw1_3 h
  by_cases hw1_4 : x1 = 4
  · replace h := if_t hw1_4 h
    refine a_tin (tgt := 64) ho 4 hw1_4 dX12_count_1 (by decide) (by decide) rfl rfl ?_
    refine a_aload_n ho dX12_count_64 rfl rfl 0 rfl ?_
    refine a_aload_n ho dX12_count_65 rfl rfl 0 rfl ?_
    refine a_getR ho fl_X12_19 o_82 fr_10_3 dX12_count_66 rfl ?_
    obtain ⟨r69, hq69, h⟩ := ob_el h
    refine a_callVi ho vy_X12_rightOn ml_X12_182 o_82 (C_X12_rightOn i_86 hq69) rfl rfl (by decide) (Nat.le_of_ble_eq_true rfl) dX12_count_69 rfl ?_
    exact a_iret ho dX12_count_72 (rI hr0 (ro_el h)) hs0
  replace h := if_f hw1_4 h
  by_cases hw1_5 : x1 = 5
  · replace h := if_t hw1_5 h
    refine a_tin (tgt := 73) ho 5 hw1_5 dX12_count_1 (by decide) (by decide) rfl rfl ?_
    refine a_iconst (v := 0) ho dX12_count_73 rfl (by decide) ?_
    refine a_istore_n (L' := [(2, .int 0), (0, .ref (gad G 82)), (1, .int x1)]) ho dX12_count_74 rfl rfl (by decide) rfl ?_
    refine a_iconst (v := 0) ho dX12_count_75 rfl (by decide) ?_
    refine a_istore_n (L' := [(3, .int 0), (2, .int 0), (0, .ref (gad G 82)), (1, .int x1)]) ho dX12_count_76 rfl rfl (by decide) rfl ?_
    exact a_sub [2, 1, 0] rfl (T_X12_count_77 ho hr0 hs0 _ _ _ h)
  replace h := if_f hw1_5 h
  by_cases hw1_6 : x1 = 6
  · replace h := if_t hw1_6 h
    refine a_tin (tgt := 117) ho 6 hw1_6 dX12_count_1 (by decide) (by decide) rfl rfl ?_
    refine a_aload_n ho dX12_count_117 rfl rfl 0 rfl ?_
    refine a_aload_n ho dX12_count_118 rfl rfl 0 rfl ?_
    refine a_getR ho fl_X12_19 o_82 fr_10_3 dX12_count_119 rfl ?_
    obtain ⟨r122, hq122, h⟩ := ob_el h
    refine a_callVi ho vy_X12_darkAll ml_X12_222 o_82 (C_X12_darkAll i_86 hq122) rfl rfl (by decide) (Nat.le_of_ble_eq_true rfl) dX12_count_122 rfl ?_
    exact a_iret ho dX12_count_125 (rI hr0 (ro_el h)) hs0
  replace h := if_f hw1_6 h
  by_cases hw1_7 : x1 = 7
  · replace h := if_t hw1_7 h
    refine a_tin (tgt := 126) ho 7 hw1_7 dX12_count_1 (by decide) (by decide) rfl rfl ?_
    refine a_aload_n ho dX12_count_126 rfl rfl 0 rfl ?_
    refine a_getI ho fl_X12_112 o_82 (ff_10_7 _ o_82) dX12_count_127 rfl ?_
    exact a_iret ho dX12_count_130 (rI hr0 (ro_el h)) hs0
  replace h := if_f hw1_7 h
  by_cases hw1_8 : x1 = 8
  · replace h := if_t hw1_8 h
    refine a_tin (tgt := 131) ho 8 hw1_8 dX12_count_1 (by decide) (by decide) rfl rfl ?_
    refine a_aload_n ho dX12_count_131 rfl rfl 0 rfl ?_
    refine a_getI ho fl_X12_63 o_82 (ff_10_11 _ o_82) dX12_count_132 rfl ?_
    exact a_iret ho dX12_count_135 (rI hr0 (ro_el h)) hs0
  replace h := if_f hw1_8 h
  refine a_tout (tgt := 136) ho (by have q0 := tI hw1_0 (z := 0) rfl; have q1 := tI hw1_1 (z := 1) rfl; have q2 := tI hw1_2 (z := 2) rfl; have q3 := tI hw1_3 (z := 3) rfl; have q4 := tI hw1_4 (z := 4) rfl; have q5 := tI hw1_5 (z := 5) rfl; have q6 := tI hw1_6 (z := 6) rfl; have q7 := tI hw1_7 (z := 7) rfl; have q8 := tI hw1_8 (z := 8) rfl; omega) dX12_count_1 rfl ?_
  refine a_iconst (v := (-1)) ho dX12_count_136 rfl (by decide) ?_
  exact a_iret ho dX12_count_137 (rI hr0 (ro_el h)) hs0
theorem C_X12_count {l : Launch} {X : gX} {σ : gS} {r0 : Int32} {a1 : Int32} (h : F_X12_count_0 a1 σ = some r0) : gCt l X yX12_count (.code yX12_count cX12_count 4 (some .int)) 4 [.ref (X.2.2.1 82), .int a1] σ (some (.int r0)) σ :=
  gCt_of cX12_count (by decide) (Nat.le_of_ble_eq_true rfl) (fun G hl hX hv hs ho => by subst hl; subst hX; exact a_sub [0, 1] rfl (T_X12_count_0 ho hv hs h))
theorem T_X12_sheet_40 {G : gM} (ho : gOk G "WaxClothModel" cX12_sheet 3 (some .int) 5) {r0 : Int32} (hr0 : gv0 G = some (.int r0)) {σ0 : gS} (hs0 : gs0 G = σ0) : ∀ (n : Nat) (x1 : Int32) (x3 : Int32) (x4 : Int32) (σ : gS), F_X12_sheet_40 n x1 x3 x4 σ = some (r0, σ0) → gAt G 40 [(0, .ref (gad G 82)), (1, .int x1), (3, .int x3), (4, .int x4)] [] σ := by
  intro n
  induction n with
  | zero => intro x1 x3 x4 σ h; cases h
  | succ n ih =>
    intro x1 x3 x4 σ h
    unfold F_X12_sheet_40 at h
    refine a_iload ho dX12_sheet_40 rfl 3 rfl ?_
    refine a_bipush (v := 24) ho dX12_sheet_42 rfl (by decide) ?_
    refine a_icmp_ge (tgt := 66) ho dX12_sheet_44 rfl rfl (fun hc44 => ?_) (fun hc44 => ?_)
    · replace h := if_t hc44 h
      refine a_iload_n ho dX12_sheet_66 rfl rfl 2 rfl ?_
      exact a_iret ho dX12_sheet_67 (rI hr0 (re_el h).1) (rS hs0 (re_el h).2)
    · replace h := if_f hc44 h
      refine a_aload_n ho dX12_sheet_47 rfl rfl 0 rfl ?_
      refine a_getR ho fl_X12_44 o_82 fr_10_14 dX12_sheet_48 rfl ?_
      refine a_bipush (v := 24) ho dX12_sheet_51 rfl (by decide) ?_
      refine a_iload_n ho dX12_sheet_53 rfl rfl 1 rfl ?_
      refine a_imul ho dX12_sheet_54 rfl ?_
      refine a_iload ho dX12_sheet_55 rfl 3 rfl ?_
      refine a_iadd ho dX12_sheet_57 rfl ?_
      refine a_lconst (v := 0) ho dX12_sheet_58 rfl (by decide) ?_
      obtain ⟨hk59, h⟩ := ck_el h
      refine a_last ho j_94 hk59 dX12_sheet_59 rfl ?_
      obtain ⟨σ59, hs59, h⟩ := bd_el h
      refine a_nmS hs59 ?_
      obtain ⟨x60, hb60, h⟩ := bd_el h
      refine a_iinc (L' := [(4, .int x60), (0, .ref (gad G 82)), (1, .int x1), (3, .int x3)]) ho dX12_sheet_60 rfl 3 rfl hb60 (by decide) rfl ?_
      refine a_goto (tgt := 40) ho dX12_sheet_63 rfl ?_
      exact a_sub [1, 2, 3, 0] rfl (ih _ _ _ _ h)
theorem T_X12_sheet_0 {G : gM} (ho : gOk G "WaxClothModel" cX12_sheet 3 (some .int) 5) {r0 : Int32} (hr0 : gv0 G = some (.int r0)) {σ0 : gS} (hs0 : gs0 G = σ0) {x1 : Int32} {x2 : Int32} {x3 : Int32} {σ : gS} (h : F_X12_sheet_0 x1 x2 x3 σ = some (r0, σ0)) : gAt G 0 [(0, .ref (gad G 82)), (1, .int x1), (2, .int x2), (3, .int x3)] [] σ := by
  unfold F_X12_sheet_0 at h
  refine a_iload_n ho dX12_sheet_0 rfl rfl 1 rfl ?_
  refine a_iload_n ho dX12_sheet_1 rfl rfl 2 rfl ?_
  refine a_callSi ho vy_X12_isSheet ml_X12_225 (C_X12_isSheet x1 x2) rfl rfl (by decide) (Nat.le_of_ble_eq_true rfl) dX12_sheet_2 rfl ?_
  refine a_if_eq (tgt := 14) ho dX12_sheet_5 rfl rfl (fun hc5 => ?_) (fun hc5 => ?_)
  · replace h := if_t hc5 h
    refine a_iconst (v := (-1)) ho dX12_sheet_14 rfl (by decide) ?_
    exact a_iret ho dX12_sheet_15 (rI hr0 (re_el h).1) (rS hs0 (re_el h).2)
  · replace h := if_f hc5 h
    refine a_iload_n ho dX12_sheet_8 rfl rfl 3 rfl ?_
    refine a_bipush (v := 24) ho dX12_sheet_9 rfl (by decide) ?_
    refine a_icmp_le (tgt := 16) ho dX12_sheet_11 rfl rfl (fun hc11 => ?_) (fun hc11 => ?_)
    · replace h := if_t hc11 h
      refine a_iload_n ho dX12_sheet_16 rfl rfl 3 rfl ?_
      refine a_if_ge (tgt := 23) ho dX12_sheet_17 rfl rfl (fun hc17 => ?_) (fun hc17 => ?_)
      · replace h := if_t hc17 h
        refine a_aload_n ho dX12_sheet_23 rfl rfl 0 rfl ?_
        refine a_getR ho fl_X12_38 o_82 fr_10_12 dX12_sheet_24 rfl ?_
        refine a_iload_n ho dX12_sheet_27 rfl rfl 1 rfl ?_
        refine a_iload_n ho dX12_sheet_28 rfl rfl 3 rfl ?_
        obtain ⟨hk29, h⟩ := ck_el h
        refine a_iast ho i_92 hk29 dX12_sheet_29 rfl ?_
        obtain ⟨σ29, hs29, h⟩ := bd_el h
        refine a_nmS hs29 ?_
        refine a_aload_n ho dX12_sheet_30 rfl rfl 0 rfl ?_
        refine a_getR ho fl_X12_41 o_82 fr_10_13 dX12_sheet_31 rfl ?_
        refine a_iload_n ho dX12_sheet_34 rfl rfl 1 rfl ?_
        refine a_iload_n ho dX12_sheet_35 rfl rfl 2 rfl ?_
        obtain ⟨hk36, h⟩ := ck_el h
        refine a_iast ho i_93 hk36 dX12_sheet_36 rfl ?_
        obtain ⟨σ36, hs36, h⟩ := bd_el h
        refine a_nmS hs36 ?_
        refine a_iconst (v := 0) ho dX12_sheet_37 rfl (by decide) ?_
        refine a_istore (L' := [(4, .int 0), (0, .ref (gad G 82)), (1, .int x1), (2, .int x2), (3, .int x3)]) ho dX12_sheet_38 rfl (by decide) rfl ?_
        exact a_sub [1, 2, 4, 0] rfl (T_X12_sheet_40 ho hr0 hs0 _ _ _ _ _ h)
      · replace h := if_f hc17 h
        refine a_bipush (v := (-14)) ho dX12_sheet_20 rfl (by decide) ?_
        exact a_iret ho dX12_sheet_22 (rI hr0 (re_el h).1) (rS hs0 (re_el h).2)
    · replace h := if_f hc11 h
      refine a_iconst (v := (-1)) ho dX12_sheet_14 rfl (by decide) ?_
      exact a_iret ho dX12_sheet_15 (rI hr0 (re_el h).1) (rS hs0 (re_el h).2)
theorem C_X12_sheet {l : Launch} {X : gX} {σ σ0 : gS} {r0 : Int32} {a1 : Int32} {a2 : Int32} {a3 : Int32} (h : F_X12_sheet_0 a1 a2 a3 σ = some (r0, σ0)) : gCt l X yX12_sheet (.code yX12_sheet cX12_sheet 5 (some .int)) 3 [.ref (X.2.2.1 82), .int a1, .int a2, .int a3] σ (some (.int r0)) σ0 :=
  gCt_of cX12_sheet (by decide) (Nat.le_of_ble_eq_true rfl) (fun G hl hX hv hs ho => by subst hl; subst hX; exact a_sub [0, 1, 2, 3] rfl (T_X12_sheet_0 ho hv hs h))
theorem T_X12_drop_0 {G : gM} (ho : gOk G "WaxClothModel" cX12_drop 2 (some .int) 3) {r0 : Int32} (hr0 : gv0 G = some (.int r0)) {σ0 : gS} (hs0 : gs0 G = σ0) {x1 : Int32} {σ : gS} (h : F_X12_drop_0 x1 σ = some (r0, σ0)) : gAt G 0 [(0, .ref (gad G 82)), (1, .int x1)] [] σ := by
  unfold F_X12_drop_0 at h
  refine a_iload_n ho dX12_drop_0 rfl rfl 1 rfl ?_
  refine a_i2l ho dX12_drop_1 rfl ?_
  refine a_lconst (v := 0) ho dX12_drop_2 rfl (by decide) ?_
  refine a_ldc2 ho dX12_drop_3 rfl kk_X12_170 ?_
  refine a_callSi ho vy_X12_in ml_X12_59 (C_X12_in (Int32.toInt64 x1) 0 3) rfl rfl (by decide) (Nat.le_of_ble_eq_true rfl) dX12_drop_6 rfl ?_
  refine a_if_ne (tgt := 14) ho dX12_drop_9 rfl rfl (fun hc9 => ?_) (fun hc9 => ?_)
  · replace h := if_f hc9 h
    refine a_aload_n ho dX12_drop_14 rfl rfl 0 rfl ?_
    refine a_getR ho fl_X12_38 o_82 fr_10_12 dX12_drop_15 rfl ?_
    refine a_iload_n ho dX12_drop_18 rfl rfl 1 rfl ?_
    obtain ⟨hk19, h⟩ := ck_el h
    refine a_iald ho i_92 hk19 dX12_drop_19 rfl ?_
    refine a_if_ge (tgt := 26) ho dX12_drop_20 rfl rfl (fun hc20 => ?_) (fun hc20 => ?_)
    · replace h := if_t hc20 h
      refine a_aload_n ho dX12_drop_26 rfl rfl 0 rfl ?_
      refine a_getR ho fl_X12_38 o_82 fr_10_12 dX12_drop_27 rfl ?_
      refine a_iload_n ho dX12_drop_30 rfl rfl 1 rfl ?_
      obtain ⟨hk31, h⟩ := ck_el h
      refine a_iald ho i_92 hk31 dX12_drop_31 rfl ?_
      obtain ⟨x32, hb32, h⟩ := bd_el h
      refine a_nmI hb32 ?_
      refine a_istore_n (L' := [(2, .int x32), (0, .ref (gad G 82)), (1, .int x1)]) ho dX12_drop_32 rfl rfl (by decide) rfl ?_
      refine a_aload_n ho dX12_drop_33 rfl rfl 1 rfl ?_
      refine a_getR ho fl_X12_38 o_82 fr_10_12 dX12_drop_34 rfl ?_
      refine a_iload_n ho dX12_drop_37 rfl rfl 2 rfl ?_
      refine a_iconst (v := (-1)) ho dX12_drop_38 rfl (by decide) ?_
      obtain ⟨hk39, h⟩ := ck_el h
      refine a_iast ho i_92 hk39 dX12_drop_39 rfl ?_
      obtain ⟨σ39, hs39, h⟩ := bd_el h
      refine a_nmS hs39 ?_
      refine a_iload_n ho dX12_drop_40 rfl rfl 0 rfl ?_
      exact a_iret ho dX12_drop_41 (rI hr0 (re_el h).1) (rS hs0 (re_el h).2)
    · replace h := if_f hc20 h
      refine a_bipush (v := (-11)) ho dX12_drop_23 rfl (by decide) ?_
      exact a_iret ho dX12_drop_25 (rI hr0 (re_el h).1) (rS hs0 (re_el h).2)
  · replace h := if_t hc9 h
    refine a_iconst (v := (-1)) ho dX12_drop_12 rfl (by decide) ?_
    exact a_iret ho dX12_drop_13 (rI hr0 (re_el h).1) (rS hs0 (re_el h).2)
theorem C_X12_drop {l : Launch} {X : gX} {σ σ0 : gS} {r0 : Int32} {a1 : Int32} (h : F_X12_drop_0 a1 σ = some (r0, σ0)) : gCt l X yX12_drop (.code yX12_drop cX12_drop 3 (some .int)) 2 [.ref (X.2.2.1 82), .int a1] σ (some (.int r0)) σ0 :=
  gCt_of cX12_drop (by decide) (Nat.le_of_ble_eq_true rfl) (fun G hl hX hv hs ho => by subst hl; subst hX; exact a_sub [0, 1] rfl (T_X12_drop_0 ho hv hs h))
theorem T_X12_item_0 {G : gM} (ho : gOk G "WaxClothModel" cX12_item 3 (some .long) 7) {r0 : Int64} (hr0 : gv0 G = some (.long r0)) {σ0 : gS} (hs0 : gs0 G = σ0) {x1 : Int32} {x2 : Int32} {x3 : Int32} {x4 : Int64} {σ : gS} (h : F_X12_item_0 x1 x2 x3 x4 σ = some (r0, σ0)) : gAt G 0 [(0, .ref (gad G 82)), (1, .int x1), (2, .int x2), (3, .int x3), (4, .long x4)] [] σ := by
  unfold F_X12_item_0 at h
  refine a_iload_n ho dX12_item_0 rfl rfl 1 rfl ?_
  refine a_iload_n ho dX12_item_1 rfl rfl 2 rfl ?_
  refine a_callSi ho vy_X12_isSheet ml_X12_225 (C_X12_isSheet x1 x2) rfl rfl (by decide) (Nat.le_of_ble_eq_true rfl) dX12_item_2 rfl ?_
  refine a_if_ne (tgt := 12) ho dX12_item_5 rfl rfl (fun hc5 => ?_) (fun hc5 => ?_)
  · replace h := if_f hc5 h
    refine a_aload_n ho dX12_item_12 rfl rfl 0 rfl ?_
    refine a_iload_n ho dX12_item_13 rfl rfl 1 rfl ?_
    refine a_iload_n ho dX12_item_14 rfl rfl 2 rfl ?_
    refine a_iload_n ho dX12_item_15 rfl rfl 3 rfl ?_
    refine a_iconst (v := 1) ho dX12_item_16 rfl (by decide) ?_
    obtain ⟨r17, hq17, h⟩ := ob_el h
    refine a_callVi ho vy_X12_found ml_X12_228 o_82 (C_X12_found hq17) rfl rfl (by decide) (Nat.le_of_ble_eq_true rfl) dX12_item_17 rfl ?_
    refine a_istore (L' := [(6, .int r17), (0, .ref (gad G 82)), (1, .int x1), (2, .int x2), (3, .int x3), (4, .long x4)]) ho dX12_item_20 rfl (by decide) rfl ?_
    refine a_iload ho dX12_item_22 rfl 0 rfl ?_
    refine a_if_ge (tgt := 31) ho dX12_item_24 rfl rfl (fun hc24 => ?_) (fun hc24 => ?_)
    · replace h := if_t hc24 h
      refine a_aload_n ho dX12_item_31 rfl rfl 1 rfl ?_
      refine a_getR ho fl_X12_44 o_82 fr_10_14 dX12_item_32 rfl ?_
      refine a_bipush (v := 24) ho dX12_item_35 rfl (by decide) ?_
      refine a_iload_n ho dX12_item_37 rfl rfl 2 rfl ?_
      refine a_imul ho dX12_item_38 rfl ?_
      refine a_iload_n ho dX12_item_39 rfl rfl 4 rfl ?_
      refine a_iadd ho dX12_item_40 rfl ?_
      refine a_iload_n ho dX12_item_41 rfl rfl 3 rfl ?_
      refine a_lload ho dX12_item_42 rfl 5 rfl ?_
      refine a_callSl ho vy_X12_cut ml_X12_254 (C_X12_cut x2 x4) rfl rfl (by decide) (Nat.le_of_ble_eq_true rfl) dX12_item_44 rfl ?_
      obtain ⟨hk47, h⟩ := ck_el h
      refine a_last ho j_94 hk47 dX12_item_47 rfl ?_
      obtain ⟨σ47, hs47, h⟩ := bd_el h
      refine a_nmS hs47 ?_
      refine a_aload_n ho dX12_item_48 rfl rfl 1 rfl ?_
      refine a_getR ho fl_X12_44 o_82 fr_10_14 dX12_item_49 rfl ?_
      refine a_bipush (v := 24) ho dX12_item_52 rfl (by decide) ?_
      refine a_iload_n ho dX12_item_54 rfl rfl 2 rfl ?_
      refine a_imul ho dX12_item_55 rfl ?_
      refine a_iload_n ho dX12_item_56 rfl rfl 4 rfl ?_
      refine a_iadd ho dX12_item_57 rfl ?_
      obtain ⟨hk58, h⟩ := ck_el h
      refine a_lald ho j_94 hk58 dX12_item_58 rfl ?_
      exact a_lret ho dX12_item_59 (rL hr0 (re_el h).1) (rS hs0 (re_el h).2)
    · replace h := if_f hc24 h
      refine a_iload ho dX12_item_27 rfl 0 rfl ?_
      refine a_i2l ho dX12_item_29 rfl ?_
      exact a_lret ho dX12_item_30 (rL hr0 (re_el h).1) (rS hs0 (re_el h).2)
  · replace h := if_t hc5 h
    refine a_ldc2 ho dX12_item_8 rfl kk_X12_249 ?_
    exact a_lret ho dX12_item_11 (rL hr0 (re_el h).1) (rS hs0 (re_el h).2)
theorem C_X12_item {l : Launch} {X : gX} {σ σ0 : gS} {r0 : Int64} {a1 : Int32} {a2 : Int32} {a3 : Int32} {a4 : Int64} (h : F_X12_item_0 a1 a2 a3 a4 σ = some (r0, σ0)) : gCt l X yX12_item (.code yX12_item cX12_item 7 (some .long)) 3 [.ref (X.2.2.1 82), .int a1, .int a2, .int a3, .long a4] σ (some (.long r0)) σ0 :=
  gCt_of cX12_item (by decide) (Nat.le_of_ble_eq_true rfl) (fun G hl hX hv hs ho => by subst hl; subst hX; exact a_sub [0, 1, 2, 3, 4] rfl (T_X12_item_0 ho hv hs h))
theorem T_X12_copy_136 {G : gM} (ho : gOk G "WaxClothModel" cX12_copy 2 (some .int) 8) {r0 : Int32} (hr0 : gv0 G = some (.int r0)) {σ0 : gS} (hs0 : gs0 G = σ0) {g111 : Int32 → Int32 → Int32 → Int32 → Int32 → Int32 → gS → Option (Int32 × gS)} (hg111 : ∀ (x1 : Int32) (x2 : Int32) (x3 : Int32) (x4 : Int32) (x5 : Int32) (x6 : Int32) (σ : gS), g111 x1 x2 x3 x4 x5 x6 σ = some (r0, σ0) → gAt G 111 [(0, .ref (gad G 82)), (1, .int x1), (2, .int x2), (3, .int x3), (4, .int x4), (5, .int x5), (6, .int x6)] [] σ) {x1 : Int32} {x2 : Int32} {x3 : Int32} {x4 : Int32} {x5 : Int32} {x6 : Int32} {y0 : Int32} {σ : gS} (h : F_X12_copy_136 g111 x1 x2 x3 x4 x5 x6 y0 σ = some (r0, σ0)) : gAt G 136 [(0, .ref (gad G 82)), (1, .int x1), (2, .int x2), (3, .int x3), (4, .int x4), (5, .int x5), (6, .int x6)] [.int y0] σ := by
  unfold F_X12_copy_136 at h
  refine a_istore (L' := [(7, .int y0), (0, .ref (gad G 82)), (1, .int x1), (2, .int x2), (3, .int x3), (4, .int x4), (5, .int x5), (6, .int x6)]) ho dX12_copy_136 rfl (by decide) rfl ?_
  refine a_aload_n ho dX12_copy_138 rfl rfl 1 rfl ?_
  refine a_getR ho fl_X12_44 o_82 fr_10_14 dX12_copy_139 rfl ?_
  refine a_bipush (v := 24) ho dX12_copy_142 rfl (by decide) ?_
  refine a_iload_n ho dX12_copy_144 rfl rfl 4 rfl ?_
  refine a_imul ho dX12_copy_145 rfl ?_
  refine a_iload ho dX12_copy_146 rfl 5 rfl ?_
  refine a_iadd ho dX12_copy_148 rfl ?_
  refine a_iload ho dX12_copy_149 rfl 0 rfl ?_
  refine a_iadd ho dX12_copy_151 rfl ?_
  refine a_aload_n ho dX12_copy_152 rfl rfl 1 rfl ?_
  refine a_getR ho fl_X12_44 o_82 fr_10_14 dX12_copy_153 rfl ?_
  refine a_bipush (v := 24) ho dX12_copy_156 rfl (by decide) ?_
  refine a_iload_n ho dX12_copy_158 rfl rfl 2 rfl ?_
  refine a_imul ho dX12_copy_159 rfl ?_
  refine a_iload_n ho dX12_copy_160 rfl rfl 3 rfl ?_
  refine a_iadd ho dX12_copy_161 rfl ?_
  refine a_iload ho dX12_copy_162 rfl 0 rfl ?_
  refine a_iadd ho dX12_copy_164 rfl ?_
  obtain ⟨hk165, h⟩ := ck_el h
  refine a_lald ho j_94 hk165 dX12_copy_165 rfl ?_
  obtain ⟨hk166, h⟩ := ck_el h
  refine a_last ho j_94 hk166 dX12_copy_166 rfl ?_
  obtain ⟨σ166, hs166, h⟩ := bd_el h
  refine a_nmS hs166 ?_
  obtain ⟨x167, hb167, h⟩ := bd_el h
  refine a_iinc (L' := [(6, .int x167), (7, .int y0), (0, .ref (gad G 82)), (1, .int x1), (2, .int x2), (3, .int x3), (4, .int x4), (5, .int x5)]) ho dX12_copy_167 rfl 7 rfl hb167 (by decide) rfl ?_
  refine a_goto (tgt := 111) ho dX12_copy_170 rfl ?_
  exact a_sub [2, 3, 4, 5, 6, 7, 0] rfl (hg111 _ _ _ _ _ _ _ h)
theorem T_X12_copy_111 {G : gM} (ho : gOk G "WaxClothModel" cX12_copy 2 (some .int) 8) {r0 : Int32} (hr0 : gv0 G = some (.int r0)) {σ0 : gS} (hs0 : gs0 G = σ0) : ∀ (n : Nat) (x1 : Int32) (x2 : Int32) (x3 : Int32) (x4 : Int32) (x5 : Int32) (x6 : Int32) (σ : gS), F_X12_copy_111 n x1 x2 x3 x4 x5 x6 σ = some (r0, σ0) → gAt G 111 [(0, .ref (gad G 82)), (1, .int x1), (2, .int x2), (3, .int x3), (4, .int x4), (5, .int x5), (6, .int x6)] [] σ := by
  intro n
  induction n with
  | zero => intro x1 x2 x3 x4 x5 x6 σ h; cases h
  | succ n ih =>
    intro x1 x2 x3 x4 x5 x6 σ h
    unfold F_X12_copy_111 at h
    refine a_iload ho dX12_copy_111 rfl 6 rfl ?_
    refine a_iload ho dX12_copy_113 rfl 5 rfl ?_
    refine a_icmp_ge (tgt := 173) ho dX12_copy_115 rfl rfl (fun hc115 => ?_) (fun hc115 => ?_)
    · replace h := if_t hc115 h
      refine a_iload ho dX12_copy_173 rfl 5 rfl ?_
      exact a_iret ho dX12_copy_175 (rI hr0 (re_el h).1) (rS hs0 (re_el h).2)
    · replace h := if_f hc115 h
      refine a_iload ho dX12_copy_118 rfl 4 rfl ?_
      refine a_iload_n ho dX12_copy_120 rfl rfl 2 rfl ?_
      refine a_icmp_le (tgt := 134) ho dX12_copy_121 rfl rfl (fun hc121 => ?_) (fun hc121 => ?_)
      · replace h := if_t hc121 h
        refine a_iload ho dX12_copy_134 rfl 6 rfl ?_
        exact a_sub [0, 1, 2, 3, 4, 5, 6] rfl (T_X12_copy_136 ho hr0 hs0 ih h)
      · replace h := if_f hc121 h
        refine a_iload ho dX12_copy_124 rfl 5 rfl ?_
        refine a_iconst (v := 1) ho dX12_copy_126 rfl (by decide) ?_
        refine a_isub ho dX12_copy_127 rfl ?_
        refine a_iload ho dX12_copy_128 rfl 6 rfl ?_
        refine a_isub ho dX12_copy_130 rfl ?_
        refine a_goto (tgt := 136) ho dX12_copy_131 rfl ?_
        exact a_sub [0, 1, 2, 3, 4, 5, 6] rfl (T_X12_copy_136 ho hr0 hs0 ih h)
theorem T_X12_copy_0 {G : gM} (ho : gOk G "WaxClothModel" cX12_copy 2 (some .int) 8) {r0 : Int32} (hr0 : gv0 G = some (.int r0)) {σ0 : gS} (hs0 : gs0 G = σ0) {x1 : Int32} {x2 : Int32} {x3 : Int32} {x4 : Int32} {x5 : Int32} {σ : gS} (h : F_X12_copy_0 x1 x2 x3 x4 x5 σ = some (r0, σ0)) : gAt G 0 [(0, .ref (gad G 82)), (1, .int x1), (2, .int x2), (3, .int x3), (4, .int x4), (5, .int x5)] [] σ := by
  unfold F_X12_copy_0 at h
  refine a_iload_n ho dX12_copy_0 rfl rfl 1 rfl ?_
  refine a_i2l ho dX12_copy_1 rfl ?_
  refine a_lconst (v := 0) ho dX12_copy_2 rfl (by decide) ?_
  refine a_ldc2 ho dX12_copy_3 rfl kk_X12_170 ?_
  refine a_callSi ho vy_X12_in ml_X12_59 (C_X12_in (Int32.toInt64 x1) 0 3) rfl rfl (by decide) (Nat.le_of_ble_eq_true rfl) dX12_copy_6 rfl ?_
  refine a_if_eq (tgt := 24) ho dX12_copy_9 rfl rfl (fun hc9 => ?_) (fun hc9 => ?_)
  · replace h := if_t hc9 h
    refine a_iconst (v := (-1)) ho dX12_copy_24 rfl (by decide) ?_
    exact a_iret ho dX12_copy_25 (rI hr0 (re_el h).1) (rS hs0 (re_el h).2)
  · replace h := if_f hc9 h
    refine a_iload_n ho dX12_copy_12 rfl rfl 3 rfl ?_
    refine a_i2l ho dX12_copy_13 rfl ?_
    refine a_lconst (v := 0) ho dX12_copy_14 rfl (by decide) ?_
    refine a_ldc2 ho dX12_copy_15 rfl kk_X12_170 ?_
    refine a_callSi ho vy_X12_in ml_X12_59 (C_X12_in (Int32.toInt64 x3) 0 3) rfl rfl (by decide) (Nat.le_of_ble_eq_true rfl) dX12_copy_18 rfl ?_
    refine a_if_ne (tgt := 26) ho dX12_copy_21 rfl rfl (fun hc21 => ?_) (fun hc21 => ?_)
    · replace h := if_f hc21 h
      refine a_aload_n ho dX12_copy_26 rfl rfl 0 rfl ?_
      refine a_getR ho fl_X12_38 o_82 fr_10_12 dX12_copy_27 rfl ?_
      refine a_iload_n ho dX12_copy_30 rfl rfl 1 rfl ?_
      obtain ⟨hk31, h⟩ := ck_el h
      refine a_iald ho i_92 hk31 dX12_copy_31 rfl ?_
      refine a_if_lt (tgt := 44) ho dX12_copy_32 rfl rfl (fun hc32 => ?_) (fun hc32 => ?_)
      · replace h := if_t hc32 h
        refine a_bipush (v := (-11)) ho dX12_copy_44 rfl (by decide) ?_
        exact a_iret ho dX12_copy_46 (rI hr0 (re_el h).1) (rS hs0 (re_el h).2)
      · replace h := if_f hc32 h
        refine a_aload_n ho dX12_copy_35 rfl rfl 0 rfl ?_
        refine a_getR ho fl_X12_38 o_82 fr_10_12 dX12_copy_36 rfl ?_
        refine a_iload_n ho dX12_copy_39 rfl rfl 3 rfl ?_
        obtain ⟨hk40, h⟩ := ck_el h
        refine a_iald ho i_92 hk40 dX12_copy_40 rfl ?_
        refine a_if_ge (tgt := 47) ho dX12_copy_41 rfl rfl (fun hc41 => ?_) (fun hc41 => ?_)
        · replace h := if_t hc41 h
          refine a_aload_n ho dX12_copy_47 rfl rfl 0 rfl ?_
          refine a_getR ho fl_X12_41 o_82 fr_10_13 dX12_copy_48 rfl ?_
          refine a_iload_n ho dX12_copy_51 rfl rfl 1 rfl ?_
          obtain ⟨hk52, h⟩ := ck_el h
          refine a_iald ho i_93 hk52 dX12_copy_52 rfl ?_
          refine a_aload_n ho dX12_copy_53 rfl rfl 0 rfl ?_
          refine a_getR ho fl_X12_41 o_82 fr_10_13 dX12_copy_54 rfl ?_
          refine a_iload_n ho dX12_copy_57 rfl rfl 3 rfl ?_
          obtain ⟨hk58, h⟩ := ck_el h
          refine a_iald ho i_93 hk58 dX12_copy_58 rfl ?_
          refine a_icmp_eq (tgt := 65) ho dX12_copy_59 rfl rfl (fun hc59 => ?_) (fun hc59 => ?_)
          · replace h := if_t hc59 h
            refine a_iload ho dX12_copy_65 rfl 5 rfl ?_
            refine a_if_lt (tgt := 105) ho dX12_copy_67 rfl rfl (fun hc67 => ?_) (fun hc67 => ?_)
            · replace h := if_t hc67 h
              refine a_bipush (v := (-13)) ho dX12_copy_105 rfl (by decide) ?_
              exact a_iret ho dX12_copy_107 (rI hr0 (re_el h).1) (rS hs0 (re_el h).2)
            · replace h := if_f hc67 h
              refine a_aload_n ho dX12_copy_70 rfl rfl 0 rfl ?_
              refine a_iload_n ho dX12_copy_71 rfl rfl 1 rfl ?_
              refine a_aload_n ho dX12_copy_72 rfl rfl 0 rfl ?_
              refine a_getR ho fl_X12_41 o_82 fr_10_13 dX12_copy_73 rfl ?_
              refine a_iload_n ho dX12_copy_76 rfl rfl 1 rfl ?_
              obtain ⟨hk77, h⟩ := ck_el h
              refine a_iald ho i_93 hk77 dX12_copy_77 rfl ?_
              refine a_iload_n ho dX12_copy_78 rfl rfl 2 rfl ?_
              refine a_iload ho dX12_copy_79 rfl 5 rfl ?_
              obtain ⟨r81, hq81, h⟩ := ob_el h
              refine a_callVi ho vy_X12_found ml_X12_228 o_82 (C_X12_found hq81) rfl rfl (by decide) (Nat.le_of_ble_eq_true rfl) dX12_copy_81 rfl ?_
              refine a_if_lt (tgt := 105) ho dX12_copy_84 rfl rfl (fun hc84 => ?_) (fun hc84 => ?_)
              · replace h := if_t hc84 h
                refine a_bipush (v := (-13)) ho dX12_copy_105 rfl (by decide) ?_
                exact a_iret ho dX12_copy_107 (rI hr0 (re_el h).1) (rS hs0 (re_el h).2)
              · replace h := if_f hc84 h
                refine a_aload_n ho dX12_copy_87 rfl rfl 0 rfl ?_
                refine a_iload_n ho dX12_copy_88 rfl rfl 3 rfl ?_
                refine a_aload_n ho dX12_copy_89 rfl rfl 0 rfl ?_
                refine a_getR ho fl_X12_41 o_82 fr_10_13 dX12_copy_90 rfl ?_
                refine a_iload_n ho dX12_copy_93 rfl rfl 3 rfl ?_
                obtain ⟨hk94, h⟩ := ck_el h
                refine a_iald ho i_93 hk94 dX12_copy_94 rfl ?_
                refine a_iload ho dX12_copy_95 rfl 4 rfl ?_
                refine a_iload ho dX12_copy_97 rfl 5 rfl ?_
                obtain ⟨r99, hq99, h⟩ := ob_el h
                refine a_callVi ho vy_X12_found ml_X12_228 o_82 (C_X12_found hq99) rfl rfl (by decide) (Nat.le_of_ble_eq_true rfl) dX12_copy_99 rfl ?_
                refine a_if_ge (tgt := 108) ho dX12_copy_102 rfl rfl (fun hc102 => ?_) (fun hc102 => ?_)
                · replace h := if_t hc102 h
                  refine a_iconst (v := 0) ho dX12_copy_108 rfl (by decide) ?_
                  refine a_istore (L' := [(6, .int 0), (0, .ref (gad G 82)), (1, .int x1), (2, .int x2), (3, .int x3), (4, .int x4), (5, .int x5)]) ho dX12_copy_109 rfl (by decide) rfl ?_
                  exact a_sub [1, 2, 3, 4, 5, 6, 0] rfl (T_X12_copy_111 ho hr0 hs0 _ _ _ _ _ _ _ _ h)
                · replace h := if_f hc102 h
                  refine a_bipush (v := (-13)) ho dX12_copy_105 rfl (by decide) ?_
                  exact a_iret ho dX12_copy_107 (rI hr0 (re_el h).1) (rS hs0 (re_el h).2)
          · replace h := if_f hc59 h
            refine a_bipush (v := (-12)) ho dX12_copy_62 rfl (by decide) ?_
            exact a_iret ho dX12_copy_64 (rI hr0 (re_el h).1) (rS hs0 (re_el h).2)
        · replace h := if_f hc41 h
          refine a_bipush (v := (-11)) ho dX12_copy_44 rfl (by decide) ?_
          exact a_iret ho dX12_copy_46 (rI hr0 (re_el h).1) (rS hs0 (re_el h).2)
    · replace h := if_t hc21 h
      refine a_iconst (v := (-1)) ho dX12_copy_24 rfl (by decide) ?_
      exact a_iret ho dX12_copy_25 (rI hr0 (re_el h).1) (rS hs0 (re_el h).2)
theorem C_X12_copy {l : Launch} {X : gX} {σ σ0 : gS} {r0 : Int32} {a1 : Int32} {a2 : Int32} {a3 : Int32} {a4 : Int32} {a5 : Int32} (h : F_X12_copy_0 a1 a2 a3 a4 a5 σ = some (r0, σ0)) : gCt l X yX12_copy (.code yX12_copy cX12_copy 8 (some .int)) 2 [.ref (X.2.2.1 82), .int a1, .int a2, .int a3, .int a4, .int a5] σ (some (.int r0)) σ0 :=
  gCt_of cX12_copy (by decide) (Nat.le_of_ble_eq_true rfl) (fun G hl hX hv hs ho => by subst hl; subst hX; exact a_sub [0, 1, 2, 3, 4, 5] rfl (T_X12_copy_0 ho hv hs h))
