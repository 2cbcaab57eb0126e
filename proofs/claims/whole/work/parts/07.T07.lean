theorem T_X12_decades_62 {G : gM} (ho : gOk G "WaxClothModel" cX12_decades 7 (some .int) 8) {r0 : Int32} (hr0 : gv0 G = some (.int r0)) {σ0 : gS} (hs0 : gs0 G = σ0) : ∀ (n : Nat) (x1 : Int32) (x3 : Int32) (x4 : Int64) (x6 : Int32) (x7 : Int32) (σ : gS), F_X12_decades_62 n x1 x3 x4 x6 x7 σ = some (r0, σ0) → gAt G 62 [(0, .ref (gad G 82)), (1, .int x1), (3, .int x3), (4, .long x4), (6, .int x6), (7, .int x7)] [] σ := by
  intro n
  induction n with
  | zero => intro x1 x3 x4 x6 x7 σ h; cases h
  | succ n ih =>
    intro x1 x3 x4 x6 x7 σ h
    unfold F_X12_decades_62 at h
    refine a_iload ho dX12_decades_62 rfl 5 rfl ?_
    refine a_iload_n ho dX12_decades_64 rfl rfl 1 rfl ?_
    refine a_icmp_ge (tgt := 127) ho dX12_decades_65 rfl rfl (fun hc65 => ?_) (fun hc65 => ?_)
    · replace h := if_t hc65 h
      refine a_iload_n ho dX12_decades_127 rfl rfl 2 rfl ?_
      refine a_if_ne (tgt := 142) ho dX12_decades_128 rfl rfl (fun hc128 => ?_) (fun hc128 => ?_)
      · replace h := if_f hc128 h
        refine a_iload ho dX12_decades_142 rfl 4 rfl ?_
        exact a_iret ho dX12_decades_144 (rI hr0 (re_el h).1) (rS hs0 (re_el h).2)
      · replace h := if_t hc128 h
        refine a_aload_n ho dX12_decades_131 rfl rfl 0 rfl ?_
        refine a_aload_n ho dX12_decades_132 rfl rfl 0 rfl ?_
        refine a_getR ho fl_X12_22 o_82 fr_10_4 dX12_decades_133 rfl ?_
        obtain ⟨r136, hq136, h⟩ := ob_el h
        refine a_callVi ho vy_X12_darkAll ml_X12_222 o_82 (C_X12_darkAll i_87 hq136) rfl rfl (by decide) (Nat.le_of_ble_eq_true rfl) dX12_decades_136 rfl ?_
        refine a_goto (tgt := 144) ho dX12_decades_139 rfl ?_
        exact a_iret ho dX12_decades_144 (rI hr0 (re_el h).1) (rS hs0 (re_el h).2)
    · replace h := if_f hc65 h
      refine a_ldc2 ho dX12_decades_68 rfl kk_X12_218 ?_
      refine a_lload ho dX12_decades_71 rfl 3 rfl ?_
      refine a_lmul ho dX12_decades_73 rfl ?_
      refine a_ldc2 ho dX12_decades_74 rfl kk_X12_220 ?_
      refine a_lrem ho dX12_decades_77 rfl (by decide) ?_
      obtain ⟨x78, hb78, h⟩ := bd_el h
      refine a_nmL hb78 ?_
      refine a_lstore (L' := [(4, .long x78), (0, .ref (gad G 82)), (1, .int x1), (3, .int x3), (6, .int x6), (7, .int x7)]) ho dX12_decades_78 rfl (by decide) rfl ?_
      refine a_aload_n ho dX12_decades_80 rfl rfl 1 rfl ?_
      refine a_aload_n ho dX12_decades_81 rfl rfl 1 rfl ?_
      refine a_getR ho fl_X12_22 o_82 fr_10_4 dX12_decades_82 rfl ?_
      refine a_aload_n ho dX12_decades_85 rfl rfl 1 rfl ?_
      refine a_lload ho dX12_decades_86 rfl 0 rfl ?_
      refine a_ldc2 ho dX12_decades_88 rfl kk_X12_188 ?_
      refine a_ldiv ho dX12_decades_91 rfl (by decide) ?_
      refine a_aload_n ho dX12_decades_92 rfl rfl 1 rfl ?_
      obtain ⟨r93, hq93, h⟩ := ob_el h
      refine a_callVi ho vy_X12_doingsThere ml_X12_190 o_82 (C_X12_doingsThere hq93) rfl rfl (by decide) (Nat.le_of_ble_eq_true rfl) dX12_decades_93 rfl ?_
      refine a_i2l ho dX12_decades_96 rfl ?_
      obtain ⟨hk97, h⟩ := ck_el h
      refine a_lrem ho dX12_decades_97 rfl hk97 ?_
      refine a_l2i ho dX12_decades_98 rfl ?_
      obtain ⟨r99, hq99, h⟩ := ob_el h
      refine a_callVi ho vy_X12_doingOf ml_X12_196 o_82 (C_X12_doingOf hq99) rfl rfl (by decide) (Nat.le_of_ble_eq_true rfl) dX12_decades_99 rfl ?_
      obtain ⟨σ102, hq102, h⟩ := ob_el h
      refine a_callVv ho vy_X12_doesAll ml_X12_179 o_82 (C_X12_doesAll i_87 hq102) rfl rfl (by decide) (Nat.le_of_ble_eq_true rfl) dX12_decades_102 rfl ?_
      refine a_iload ho dX12_decades_105 rfl 4 rfl ?_
      refine a_aload_n ho dX12_decades_107 rfl rfl 1 rfl ?_
      refine a_aload_n ho dX12_decades_108 rfl rfl 1 rfl ?_
      refine a_getR ho fl_X12_22 o_82 fr_10_4 dX12_decades_109 rfl ?_
      obtain ⟨r112, hq112, h⟩ := ob_el h
      refine a_callVi ho vy_X12_rightOn ml_X12_182 o_82 (C_X12_rightOn i_87 hq112) rfl rfl (by decide) (Nat.le_of_ble_eq_true rfl) dX12_decades_112 rfl ?_
      obtain ⟨r115, hq115, h⟩ := ob_el h
      refine a_callSi ho vy_X12_bits ml_X12_199 (C_X12_bits hq115) rfl rfl (by decide) (Nat.le_of_ble_eq_true rfl) dX12_decades_115 rfl ?_
      refine a_iadd ho dX12_decades_118 rfl ?_
      obtain ⟨x119, hb119, h⟩ := bd_el h
      refine a_nmI hb119 ?_
      refine a_istore (L' := [(6, .int x119), (4, .long x78), (0, .ref (gad G 82)), (1, .int x1), (3, .int x3), (7, .int x7)]) ho dX12_decades_119 rfl (by decide) rfl ?_
      obtain ⟨x121, hb121, h⟩ := bd_el h
      refine a_iinc (L' := [(7, .int x121), (6, .int x119), (4, .long x78), (0, .ref (gad G 82)), (1, .int x1), (3, .int x3)]) ho dX12_decades_121 rfl 5 rfl hb121 (by decide) rfl ?_
      refine a_goto (tgt := 62) ho dX12_decades_124 rfl ?_
      exact a_sub [3, 4, 5, 2, 1, 0] rfl (ih _ _ _ _ _ _ h)
theorem T_X12_decades_0 {G : gM} (ho : gOk G "WaxClothModel" cX12_decades 7 (some .int) 8) {r0 : Int32} (hr0 : gv0 G = some (.int r0)) {σ0 : gS} (hs0 : gs0 G = σ0) {x1 : Int32} {x2 : Int32} {x3 : Int32} {σ : gS} (h : F_X12_decades_0 x1 x2 x3 σ = some (r0, σ0)) : gAt G 0 [(0, .ref (gad G 82)), (1, .int x1), (2, .int x2), (3, .int x3)] [] σ := by
  unfold F_X12_decades_0 at h
  refine a_iload_n ho dX12_decades_0 rfl rfl 1 rfl ?_
  refine a_i2l ho dX12_decades_1 rfl ?_
  refine a_lconst (v := 0) ho dX12_decades_2 rfl (by decide) ?_
  refine a_ldc2 ho dX12_decades_3 rfl kk_X12_214 ?_
  refine a_callSi ho vy_X12_in ml_X12_59 (C_X12_in (Int32.toInt64 x1) 0 60) rfl rfl (by decide) (Nat.le_of_ble_eq_true rfl) dX12_decades_6 rfl ?_
  refine a_if_eq (tgt := 34) ho dX12_decades_9 rfl rfl (fun hc9 => ?_) (fun hc9 => ?_)
  · replace h := if_t hc9 h
    refine a_iconst (v := (-1)) ho dX12_decades_34 rfl (by decide) ?_
    exact a_iret ho dX12_decades_35 (rI hr0 (re_el h).1) (rS hs0 (re_el h).2)
  · replace h := if_f hc9 h
    refine a_iload_n ho dX12_decades_12 rfl rfl 2 rfl ?_
    refine a_i2l ho dX12_decades_13 rfl ?_
    refine a_lconst (v := 1) ho dX12_decades_14 rfl (by decide) ?_
    refine a_ldc2 ho dX12_decades_15 rfl kk_X12_216 ?_
    refine a_callSi ho vy_X12_in ml_X12_59 (C_X12_in (Int32.toInt64 x2) 1 999999) rfl rfl (by decide) (Nat.le_of_ble_eq_true rfl) dX12_decades_18 rfl ?_
    refine a_if_eq (tgt := 34) ho dX12_decades_21 rfl rfl (fun hc21 => ?_) (fun hc21 => ?_)
    · replace h := if_t hc21 h
      refine a_iconst (v := (-1)) ho dX12_decades_34 rfl (by decide) ?_
      exact a_iret ho dX12_decades_35 (rI hr0 (re_el h).1) (rS hs0 (re_el h).2)
    · replace h := if_f hc21 h
      refine a_iload_n ho dX12_decades_24 rfl rfl 3 rfl ?_
      refine a_i2l ho dX12_decades_25 rfl ?_
      refine a_lconst (v := 0) ho dX12_decades_26 rfl (by decide) ?_
      refine a_lconst (v := 1) ho dX12_decades_27 rfl (by decide) ?_
      refine a_callSi ho vy_X12_in ml_X12_59 (C_X12_in (Int32.toInt64 x3) 0 1) rfl rfl (by decide) (Nat.le_of_ble_eq_true rfl) dX12_decades_28 rfl ?_
      refine a_if_ne (tgt := 36) ho dX12_decades_31 rfl rfl (fun hc31 => ?_) (fun hc31 => ?_)
      · replace h := if_f hc31 h
        refine a_aload_n ho dX12_decades_36 rfl rfl 0 rfl ?_
        refine a_getR ho fl_X12_7 o_82 fr_10_0 dX12_decades_37 rfl ?_
        refine a_iconst (v := 0) ho dX12_decades_40 rfl (by decide) ?_
        refine a_iald ho i_83 (by decide) dX12_decades_41 rfl ?_
        refine a_nmI (x := σ.1 83 0) rfl ?_
        refine a_if_ne (tgt := 48) ho dX12_decades_42 rfl rfl (fun hc42 => ?_) (fun hc42 => ?_)
        · replace h := if_f hc42 h
          refine a_aload_n ho dX12_decades_48 rfl rfl 0 rfl ?_
          obtain ⟨σ49, hq49, h⟩ := ob_el h
          refine a_callVv ho vy_X12_laysAside ml_X12_193 o_82 (C_X12_laysAside hq49) rfl rfl (by decide) (Nat.le_of_ble_eq_true rfl) dX12_decades_49 rfl ?_
          refine a_iload_n ho dX12_decades_52 rfl rfl 2 rfl ?_
          refine a_i2l ho dX12_decades_53 rfl ?_
          obtain ⟨x54, hb54, h⟩ := bd_el h
          refine a_nmL hb54 ?_
          refine a_lstore (L' := [(4, .long x54), (0, .ref (gad G 82)), (1, .int x1), (2, .int x2), (3, .int x3)]) ho dX12_decades_54 rfl (by decide) rfl ?_
          refine a_iconst (v := 0) ho dX12_decades_56 rfl (by decide) ?_
          refine a_istore (L' := [(6, .int 0), (4, .long x54), (0, .ref (gad G 82)), (1, .int x1), (2, .int x2), (3, .int x3)]) ho dX12_decades_57 rfl (by decide) rfl ?_
          refine a_iconst (v := 0) ho dX12_decades_59 rfl (by decide) ?_
          refine a_istore (L' := [(7, .int 0), (6, .int 0), (4, .long x54), (0, .ref (gad G 82)), (1, .int x1), (2, .int x2), (3, .int x3)]) ho dX12_decades_60 rfl (by decide) rfl ?_
          exact a_sub [3, 4, 6, 2, 1, 0] rfl (T_X12_decades_62 ho hr0 hs0 _ _ _ _ _ _ _ h)
        · replace h := if_t hc42 h
          refine a_bipush (v := (-2)) ho dX12_decades_45 rfl (by decide) ?_
          exact a_iret ho dX12_decades_47 (rI hr0 (re_el h).1) (rS hs0 (re_el h).2)
      · replace h := if_t hc31 h
        refine a_iconst (v := (-1)) ho dX12_decades_34 rfl (by decide) ?_
        exact a_iret ho dX12_decades_35 (rI hr0 (re_el h).1) (rS hs0 (re_el h).2)
theorem C_X12_decades {l : Launch} {X : gX} {σ σ0 : gS} {r0 : Int32} {a1 : Int32} {a2 : Int32} {a3 : Int32} (h : F_X12_decades_0 a1 a2 a3 σ = some (r0, σ0)) : gCt l X yX12_decades (.code yX12_decades cX12_decades 8 (some .int)) 7 [.ref (X.2.2.1 82), .int a1, .int a2, .int a3] σ (some (.int r0)) σ0 :=
  gCt_of cX12_decades (by decide) (Nat.le_of_ble_eq_true rfl) (fun G hl hX hv hs ho => by subst hl; subst hX; exact a_sub [0, 1, 2, 3] rfl (T_X12_decades_0 ho hv hs h))
theorem T_X12_isSheet_0 {G : gM} (ho : gOk G "WaxClothModel" cX12_isSheet 2 (some .boolean) 2) {r0 : Int32} (hr0 : gv0 G = some (.int r0)) {σ : gS} (hs0 : gs0 G = σ) {x0 : Int32} {x1 : Int32} (h : F_X12_isSheet_0 x0 x1 = r0) : gAt G 0 [(0, .int x0), (1, .int x1)] [] σ := by
  unfold F_X12_isSheet_0 at h
  refine a_iload_n ho dX12_isSheet_0 rfl rfl 0 rfl ?_
  refine a_i2l ho dX12_isSheet_1 rfl ?_
  refine a_lconst (v := 0) ho dX12_isSheet_2 rfl (by decide) ?_
  refine a_ldc2 ho dX12_isSheet_3 rfl kk_X12_170 ?_
  refine a_callSi ho vy_X12_in ml_X12_59 (C_X12_in (Int32.toInt64 x0) 0 3) rfl rfl (by decide) (Nat.le_of_ble_eq_true rfl) dX12_isSheet_6 rfl ?_
  refine a_if_eq (tgt := 28) ho dX12_isSheet_9 rfl rfl (fun hc9 => ?_) (fun hc9 => ?_)
  · replace h := if_t hc9 h
    refine a_iconst (v := 0) ho dX12_isSheet_28 rfl (by decide) ?_
    exact a_zret ho dX12_isSheet_29 rfl (rI hr0 h) hs0
  · replace h := if_f hc9 h
    refine a_iload_n ho dX12_isSheet_12 rfl rfl 1 rfl ?_
    refine a_i2l ho dX12_isSheet_13 rfl ?_
    refine a_lconst (v := 0) ho dX12_isSheet_14 rfl (by decide) ?_
    refine a_ldc2 ho dX12_isSheet_15 rfl kk_X12_170 ?_
    refine a_callSi ho vy_X12_in ml_X12_59 (C_X12_in (Int32.toInt64 x1) 0 3) rfl rfl (by decide) (Nat.le_of_ble_eq_true rfl) dX12_isSheet_18 rfl ?_
    refine a_if_eq (tgt := 28) ho dX12_isSheet_21 rfl rfl (fun hc21 => ?_) (fun hc21 => ?_)
    · replace h := if_t hc21 h
      refine a_iconst (v := 0) ho dX12_isSheet_28 rfl (by decide) ?_
      exact a_zret ho dX12_isSheet_29 rfl (rI hr0 h) hs0
    · replace h := if_f hc21 h
      refine a_iconst (v := 1) ho dX12_isSheet_24 rfl (by decide) ?_
      refine a_goto (tgt := 29) ho dX12_isSheet_25 rfl ?_
      exact a_zret ho dX12_isSheet_29 rfl (rI hr0 h) hs0
theorem C_X12_isSheet {l : Launch} {X : gX} {σ : gS} (a0 : Int32) (a1 : Int32) : gCt l X yX12_isSheet (.code yX12_isSheet cX12_isSheet 2 (some .boolean)) 2 [.int a0, .int a1] σ (some (.int (F_X12_isSheet_0 a0 a1))) σ :=
  gCt_of cX12_isSheet (by decide) (Nat.le_of_ble_eq_true rfl) (fun G hl hX hv hs ho => by subst hl; subst hX; exact a_sub [0, 1] rfl (T_X12_isSheet_0 ho hv hs rfl))
theorem T_X12_found_46 {G : gM} (ho : gOk G "WaxClothModel" cX12_found 1 (some .int) 5) {r0 : Int32} (hr0 : gv0 G = some (.int r0)) {σ : gS} (hs0 : gs0 G = σ) (h : F_X12_found_46 σ = some r0) : gAt G 46 [] [] σ := by
  unfold F_X12_found_46 at h
  refine a_bipush (v := (-13)) ho dX12_found_46 rfl (by decide) ?_
  refine a_goto (tgt := 52) ho dX12_found_48 rfl ?_
  exact a_iret ho dX12_found_52 (rI hr0 (ro_el h)) hs0
theorem T_X12_found_0 {G : gM} (ho : gOk G "WaxClothModel" cX12_found 1 (some .int) 5) {r0 : Int32} (hr0 : gv0 G = some (.int r0)) {σ : gS} (hs0 : gs0 G = σ) {x1 : Int32} {x2 : Int32} {x3 : Int32} {x4 : Int32} (h : F_X12_found_0 x1 x2 x3 x4 σ = some r0) : gAt G 0 [(0, .ref (gad G 82)), (1, .int x1), (2, .int x2), (3, .int x3), (4, .int x4)] [] σ := by
  unfold F_X12_found_0 at h
  refine a_aload_n ho dX12_found_0 rfl rfl 0 rfl ?_
  refine a_getR ho fl_X12_38 o_82 fr_10_12 dX12_found_1 rfl ?_
  refine a_iload_n ho dX12_found_4 rfl rfl 1 rfl ?_
  obtain ⟨hk5, h⟩ := ck_el h
  refine a_iald ho i_92 hk5 dX12_found_5 rfl ?_
  refine a_if_ge (tgt := 12) ho dX12_found_6 rfl rfl (fun hc6 => ?_) (fun hc6 => ?_)
  · replace h := if_t hc6 h
    refine a_aload_n ho dX12_found_12 rfl rfl 0 rfl ?_
    refine a_getR ho fl_X12_41 o_82 fr_10_13 dX12_found_13 rfl ?_
    refine a_iload_n ho dX12_found_16 rfl rfl 1 rfl ?_
    obtain ⟨hk17, h⟩ := ck_el h
    refine a_iald ho i_93 hk17 dX12_found_17 rfl ?_
    refine a_iload_n ho dX12_found_18 rfl rfl 2 rfl ?_
    refine a_icmp_eq (tgt := 25) ho dX12_found_19 rfl rfl (fun hc19 => ?_) (fun hc19 => ?_)
    · replace h := if_t hc19 h
      refine a_iload_n ho dX12_found_25 rfl rfl 3 rfl ?_
      refine a_if_lt (tgt := 46) ho dX12_found_26 rfl rfl (fun hc26 => ?_) (fun hc26 => ?_)
      · replace h := if_t hc26 h
        exact a_sub [] rfl (T_X12_found_46 ho hr0 hs0 h)
      · replace h := if_f hc26 h
        refine a_iload_n ho dX12_found_29 rfl rfl 3 rfl ?_
        refine a_i2l ho dX12_found_30 rfl ?_
        refine a_iload ho dX12_found_31 rfl 4 rfl ?_
        refine a_i2l ho dX12_found_33 rfl ?_
        refine a_ladd ho dX12_found_34 rfl ?_
        refine a_aload_n ho dX12_found_35 rfl rfl 0 rfl ?_
        refine a_getR ho fl_X12_38 o_82 fr_10_12 dX12_found_36 rfl ?_
        refine a_iload_n ho dX12_found_39 rfl rfl 1 rfl ?_
        obtain ⟨hk40, h⟩ := ck_el h
        refine a_iald ho i_92 hk40 dX12_found_40 rfl ?_
        refine a_i2l ho dX12_found_41 rfl ?_
        refine a_lcmp ho dX12_found_42 rfl ?_
        refine a_if_le (tgt := 51) ho dX12_found_43 rfl rfl (fun hc43 => ?_) (fun hc43 => ?_)
        · replace h := if_t hc43 h
          refine a_iconst (v := 0) ho dX12_found_51 rfl (by decide) ?_
          exact a_iret ho dX12_found_52 (rI hr0 (ro_el h)) hs0
        · replace h := if_f hc43 h
          exact a_sub [] rfl (T_X12_found_46 ho hr0 hs0 h)
    · replace h := if_f hc19 h
      refine a_bipush (v := (-12)) ho dX12_found_22 rfl (by decide) ?_
      exact a_iret ho dX12_found_24 (rI hr0 (ro_el h)) hs0
  · replace h := if_f hc6 h
    refine a_bipush (v := (-11)) ho dX12_found_9 rfl (by decide) ?_
    exact a_iret ho dX12_found_11 (rI hr0 (ro_el h)) hs0
theorem C_X12_found {l : Launch} {X : gX} {σ : gS} {r0 : Int32} {a1 : Int32} {a2 : Int32} {a3 : Int32} {a4 : Int32} (h : F_X12_found_0 a1 a2 a3 a4 σ = some r0) : gCt l X yX12_found (.code yX12_found cX12_found 5 (some .int)) 1 [.ref (X.2.2.1 82), .int a1, .int a2, .int a3, .int a4] σ (some (.int r0)) σ :=
  gCt_of cX12_found (by decide) (Nat.le_of_ble_eq_true rfl) (fun G hl hX hv hs ho => by subst hl; subst hX; exact a_sub [0, 1, 2, 3, 4] rfl (T_X12_found_0 ho hv hs h))
theorem T_X12_cut_0 {G : gM} (ho : gOk G "WaxClothModel" cX12_cut 1 (some .long) 3) {r0 : Int64} (hr0 : gv0 G = some (.long r0)) {σ : gS} (hs0 : gs0 G = σ) {x0 : Int32} {x1 : Int64} (h : F_X12_cut_0 x0 x1 = r0) : gAt G 0 [(0, .int x0), (1, .long x1)] [] σ := by
  unfold F_X12_cut_0 at h
  refine a_iload_n ho dX12_cut_0 rfl rfl 0 rfl ?_
  refine a_if_ne (tgt := 11) ho dX12_cut_1 rfl rfl (fun hc1 => ?_) (fun hc1 => ?_)
  · replace h := if_f hc1 h
    refine a_iload_n ho dX12_cut_11 rfl rfl 0 rfl ?_
    refine a_iconst (v := 1) ho dX12_cut_12 rfl (by decide) ?_
    refine a_icmp_ne (tgt := 23) ho dX12_cut_13 rfl rfl (fun hc13 => ?_) (fun hc13 => ?_)
    · replace h := if_f hc13 h
      refine a_iload_n ho dX12_cut_23 rfl rfl 0 rfl ?_
      refine a_iconst (v := 2) ho dX12_cut_24 rfl (by decide) ?_
      refine a_icmp_ne (tgt := 34) ho dX12_cut_25 rfl rfl (fun hc25 => ?_) (fun hc25 => ?_)
      · replace h := if_f hc25 h
        refine a_lload_n ho dX12_cut_34 rfl rfl 1 rfl ?_
        exact a_lret ho dX12_cut_35 (rL hr0 h) hs0
      · replace h := if_t hc25 h
        refine a_lload_n ho dX12_cut_28 rfl rfl 1 rfl ?_
        refine a_l2i ho dX12_cut_29 rfl ?_
        refine a_i2l ho dX12_cut_30 rfl ?_
        refine a_goto (tgt := 35) ho dX12_cut_31 rfl ?_
        exact a_lret ho dX12_cut_35 (rL hr0 h) hs0
    · replace h := if_t hc13 h
      refine a_lload_n ho dX12_cut_16 rfl rfl 1 rfl ?_
      refine a_l2i ho dX12_cut_17 rfl ?_
      refine a_i2s ho dX12_cut_18 rfl ?_
      refine a_i2l ho dX12_cut_19 rfl ?_
      refine a_goto (tgt := 35) ho dX12_cut_20 rfl ?_
      exact a_lret ho dX12_cut_35 (rL hr0 h) hs0
  · replace h := if_t hc1 h
    refine a_lload_n ho dX12_cut_4 rfl rfl 1 rfl ?_
    refine a_l2i ho dX12_cut_5 rfl ?_
    refine a_i2b ho dX12_cut_6 rfl ?_
    refine a_i2l ho dX12_cut_7 rfl ?_
    refine a_goto (tgt := 35) ho dX12_cut_8 rfl ?_
    exact a_lret ho dX12_cut_35 (rL hr0 h) hs0
theorem C_X12_cut {l : Launch} {X : gX} {σ : gS} (a0 : Int32) (a1 : Int64) : gCt l X yX12_cut (.code yX12_cut cX12_cut 3 (some .long)) 1 [.int a0, .long a1] σ (some (.long (F_X12_cut_0 a0 a1))) σ :=
  gCt_of cX12_cut (by decide) (Nat.le_of_ble_eq_true rfl) (fun G hl hX hv hs ho => by subst hl; subst hX; exact a_sub [0, 1] rfl (T_X12_cut_0 ho hv hs rfl))
theorem T_X12_log_45 {G : gM} (ho : gOk G "WaxClothModel" cX12_log 3 (some .int) 6) {r0 : Int32} (hr0 : gv0 G = some (.int r0)) {σ0 : gS} (hs0 : gs0 G = σ0) : ∀ (n : Nat) (x1 : Int32) (x3 : Int32) (x5 : Int32) (σ : gS), F_X12_log_45 n x1 x3 x5 σ = some (r0, σ0) → gAt G 45 [(0, .ref (gad G 82)), (1, .int x1), (3, .int x3), (5, .int x5)] [] σ := by
  intro n
  induction n with
  | zero => intro x1 x3 x5 σ h; cases h
  | succ n ih =>
    intro x1 x3 x5 σ h
    unfold F_X12_log_45 at h
    refine a_iload ho dX12_log_45 rfl 3 rfl ?_
    refine a_aload_n ho dX12_log_47 rfl rfl 0 rfl ?_
    refine a_getR ho fl_X12_7 o_82 fr_10_0 dX12_log_48 rfl ?_
    refine a_iconst (v := 0) ho dX12_log_51 rfl (by decide) ?_
    refine a_iald ho i_83 (by decide) dX12_log_52 rfl ?_
    refine a_nmI (x := σ.1 83 0) rfl ?_
    refine a_icmp_ge (tgt := 86) ho dX12_log_53 rfl rfl (fun hc53 => ?_) (fun hc53 => ?_)
    · replace h := if_t hc53 h
      refine a_aload_n ho dX12_log_86 rfl rfl 0 rfl ?_
      refine a_getR ho fl_X12_7 o_82 fr_10_0 dX12_log_87 rfl ?_
      refine a_iconst (v := 0) ho dX12_log_90 rfl (by decide) ?_
      refine a_iald ho i_83 (by decide) dX12_log_91 rfl ?_
      refine a_nmI (x := σ.1 83 0) rfl ?_
      exact a_iret ho dX12_log_92 (rI hr0 (re_el h).1) (rS hs0 (re_el h).2)
    · replace h := if_f hc53 h
      refine a_aload_n ho dX12_log_56 rfl rfl 0 rfl ?_
      refine a_getR ho fl_X12_44 o_82 fr_10_14 dX12_log_57 rfl ?_
      refine a_bipush (v := 24) ho dX12_log_60 rfl (by decide) ?_
      refine a_iload_n ho dX12_log_62 rfl rfl 1 rfl ?_
      refine a_imul ho dX12_log_63 rfl ?_
      refine a_iload_n ho dX12_log_64 rfl rfl 2 rfl ?_
      refine a_iadd ho dX12_log_65 rfl ?_
      refine a_iload ho dX12_log_66 rfl 3 rfl ?_
      refine a_iadd ho dX12_log_68 rfl ?_
      refine a_aload_n ho dX12_log_69 rfl rfl 0 rfl ?_
      refine a_getR ho fl_X12_19 o_82 fr_10_3 dX12_log_70 rfl ?_
      refine a_iload ho dX12_log_73 rfl 3 rfl ?_
      obtain ⟨r75, hq75, h⟩ := ob_el h
      refine a_callSi ho vy_X12_hueOf ml_X12_115 (C_X12_hueOf i_86 hq75) rfl rfl (by decide) (Nat.le_of_ble_eq_true rfl) dX12_log_75 rfl ?_
      refine a_i2l ho dX12_log_78 rfl ?_
      obtain ⟨hk79, h⟩ := ck_el h
      refine a_last ho j_94 hk79 dX12_log_79 rfl ?_
      obtain ⟨σ79, hs79, h⟩ := bd_el h
      refine a_nmS hs79 ?_
      obtain ⟨x80, hb80, h⟩ := bd_el h
      refine a_iinc (L' := [(5, .int x80), (0, .ref (gad G 82)), (1, .int x1), (3, .int x3)]) ho dX12_log_80 rfl 3 rfl hb80 (by decide) rfl ?_
      refine a_goto (tgt := 45) ho dX12_log_83 rfl ?_
      exact a_sub [1, 2, 3, 0] rfl (ih _ _ _ _ h)
theorem T_X12_log_0 {G : gM} (ho : gOk G "WaxClothModel" cX12_log 3 (some .int) 6) {r0 : Int32} (hr0 : gv0 G = some (.int r0)) {σ0 : gS} (hs0 : gs0 G = σ0) {x1 : Int32} {x2 : Int32} {x3 : Int32} {σ : gS} (h : F_X12_log_0 x1 x2 x3 σ = some (r0, σ0)) : gAt G 0 [(0, .ref (gad G 82)), (1, .int x1), (2, .int x2), (3, .int x3)] [] σ := by
  unfold F_X12_log_0 at h
  refine a_aload_n ho dX12_log_0 rfl rfl 0 rfl ?_
  refine a_getR ho fl_X12_7 o_82 fr_10_0 dX12_log_1 rfl ?_
  refine a_iconst (v := 0) ho dX12_log_4 rfl (by decide) ?_
  refine a_iald ho i_83 (by decide) dX12_log_5 rfl ?_
  refine a_nmI (x := σ.1 83 0) rfl ?_
  refine a_if_eq (tgt := 17) ho dX12_log_6 rfl rfl (fun hc6 => ?_) (fun hc6 => ?_)
  · replace h := if_t hc6 h
    refine a_iconst (v := (-1)) ho dX12_log_17 rfl (by decide) ?_
    exact a_iret ho dX12_log_18 (rI hr0 (re_el h).1) (rS hs0 (re_el h).2)
  · replace h := if_f hc6 h
    refine a_iload_n ho dX12_log_9 rfl rfl 1 rfl ?_
    refine a_iload_n ho dX12_log_10 rfl rfl 2 rfl ?_
    refine a_callSi ho vy_X12_isSheet ml_X12_225 (C_X12_isSheet x1 x2) rfl rfl (by decide) (Nat.le_of_ble_eq_true rfl) dX12_log_11 rfl ?_
    refine a_if_ne (tgt := 19) ho dX12_log_14 rfl rfl (fun hc14 => ?_) (fun hc14 => ?_)
    · replace h := if_f hc14 h
      refine a_aload_n ho dX12_log_19 rfl rfl 0 rfl ?_
      refine a_iload_n ho dX12_log_20 rfl rfl 1 rfl ?_
      refine a_iload_n ho dX12_log_21 rfl rfl 2 rfl ?_
      refine a_iload_n ho dX12_log_22 rfl rfl 3 rfl ?_
      refine a_aload_n ho dX12_log_23 rfl rfl 0 rfl ?_
      refine a_getR ho fl_X12_7 o_82 fr_10_0 dX12_log_24 rfl ?_
      refine a_iconst (v := 0) ho dX12_log_27 rfl (by decide) ?_
      refine a_iald ho i_83 (by decide) dX12_log_28 rfl ?_
      refine a_nmI (x := σ.1 83 0) rfl ?_
      obtain ⟨r29, hq29, h⟩ := ob_el h
      refine a_callVi ho vy_X12_found ml_X12_228 o_82 (C_X12_found hq29) rfl rfl (by decide) (Nat.le_of_ble_eq_true rfl) dX12_log_29 rfl ?_
      refine a_istore (L' := [(4, .int r29), (0, .ref (gad G 82)), (1, .int x1), (2, .int x2), (3, .int x3)]) ho dX12_log_32 rfl (by decide) rfl ?_
      refine a_iload ho dX12_log_34 rfl 0 rfl ?_
      refine a_if_ge (tgt := 42) ho dX12_log_36 rfl rfl (fun hc36 => ?_) (fun hc36 => ?_)
      · replace h := if_t hc36 h
        refine a_iconst (v := 0) ho dX12_log_42 rfl (by decide) ?_
        refine a_istore (L' := [(5, .int 0), (4, .int r29), (0, .ref (gad G 82)), (1, .int x1), (2, .int x2), (3, .int x3)]) ho dX12_log_43 rfl (by decide) rfl ?_
        exact a_sub [2, 3, 5, 0] rfl (T_X12_log_45 ho hr0 hs0 _ _ _ _ _ h)
      · replace h := if_f hc36 h
        refine a_iload ho dX12_log_39 rfl 0 rfl ?_
        exact a_iret ho dX12_log_41 (rI hr0 (re_el h).1) (rS hs0 (re_el h).2)
    · replace h := if_t hc14 h
      refine a_iconst (v := (-1)) ho dX12_log_17 rfl (by decide) ?_
      exact a_iret ho dX12_log_18 (rI hr0 (re_el h).1) (rS hs0 (re_el h).2)
theorem C_X12_log {l : Launch} {X : gX} {σ σ0 : gS} {r0 : Int32} {a1 : Int32} {a2 : Int32} {a3 : Int32} (h : F_X12_log_0 a1 a2 a3 σ = some (r0, σ0)) : gCt l X yX12_log (.code yX12_log cX12_log 6 (some .int)) 3 [.ref (X.2.2.1 82), .int a1, .int a2, .int a3] σ (some (.int r0)) σ0 :=
  gCt_of cX12_log (by decide) (Nat.le_of_ble_eq_true rfl) (fun G hl hX hv hs ho => by subst hl; subst hX; exact a_sub [0, 1, 2, 3] rfl (T_X12_log_0 ho hv hs h))
theorem T_X12_areDoings_43 {G : gM} (ho : gOk G "WaxClothModel" cX12_areDoings 3 (some .boolean) 6) {r0 : Int32} (hr0 : gv0 G = some (.int r0)) {σ : gS} (hs0 : gs0 G = σ) {g6 : Int32 → Int32 → Int32 → Int32 → Int32 → gS → Option Int32} (hg6 : ∀ (x1 : Int32) (x2 : Int32) (x3 : Int32) (x4 : Int32) (x5 : Int32), g6 x1 x2 x3 x4 x5 σ = some r0 → gAt G 6 [(0, .ref (gad G 82)), (1, .int x1), (2, .int x2), (3, .int x3), (4, .int x4), (5, .int x5)] [] σ) {x1 : Int32} {x2 : Int32} {x3 : Int32} {x5 : Int32} {y0 : Int32} (h : F_X12_areDoings_43 g6 x1 x2 x3 x5 y0 σ = some r0) : gAt G 43 [(0, .ref (gad G 82)), (1, .int x1), (2, .int x2), (3, .int x3), (5, .int x5)] [.int y0] σ := by
  unfold F_X12_areDoings_43 at h
  refine a_istore (L' := [(4, .int y0), (0, .ref (gad G 82)), (1, .int x1), (2, .int x2), (3, .int x3), (5, .int x5)]) ho dX12_areDoings_43 rfl (by decide) rfl ?_
  obtain ⟨x45, hb45, h⟩ := bd_el h
  refine a_iinc (L' := [(5, .int x45), (4, .int y0), (0, .ref (gad G 82)), (1, .int x1), (2, .int x2), (3, .int x3)]) ho dX12_areDoings_45 rfl 5 rfl hb45 (by decide) rfl ?_
  refine a_goto (tgt := 6) ho dX12_areDoings_48 rfl ?_
  exact a_sub [2, 3, 4, 5, 1, 0] rfl (hg6 _ _ _ _ _ h)
theorem T_X12_areDoings_42 {G : gM} (ho : gOk G "WaxClothModel" cX12_areDoings 3 (some .boolean) 6) {r0 : Int32} (hr0 : gv0 G = some (.int r0)) {σ : gS} (hs0 : gs0 G = σ) {g6 : Int32 → Int32 → Int32 → Int32 → Int32 → gS → Option Int32} (hg6 : ∀ (x1 : Int32) (x2 : Int32) (x3 : Int32) (x4 : Int32) (x5 : Int32), g6 x1 x2 x3 x4 x5 σ = some r0 → gAt G 6 [(0, .ref (gad G 82)), (1, .int x1), (2, .int x2), (3, .int x3), (4, .int x4), (5, .int x5)] [] σ) {x1 : Int32} {x2 : Int32} {x3 : Int32} {x5 : Int32} (h : F_X12_areDoings_42 g6 x1 x2 x3 x5 σ = some r0) : gAt G 42 [(0, .ref (gad G 82)), (1, .int x1), (2, .int x2), (3, .int x3), (5, .int x5)] [] σ := by
  unfold F_X12_areDoings_42 at h
  refine a_iconst (v := 0) ho dX12_areDoings_42 rfl (by decide) ?_
  exact a_sub [0, 1, 2, 3, 4] rfl (T_X12_areDoings_43 ho hr0 hs0 hg6 h)
theorem T_X12_areDoings_6 {G : gM} (ho : gOk G "WaxClothModel" cX12_areDoings 3 (some .boolean) 6) {r0 : Int32} (hr0 : gv0 G = some (.int r0)) {σ : gS} (hs0 : gs0 G = σ) : ∀ (n : Nat) (x1 : Int32) (x2 : Int32) (x3 : Int32) (x4 : Int32) (x5 : Int32), F_X12_areDoings_6 n x1 x2 x3 x4 x5 σ = some r0 → gAt G 6 [(0, .ref (gad G 82)), (1, .int x1), (2, .int x2), (3, .int x3), (4, .int x4), (5, .int x5)] [] σ := by
  intro n
  induction n with
  | zero => intro x1 x2 x3 x4 x5 h; cases h
  | succ n ih =>
    intro x1 x2 x3 x4 x5 h
    unfold F_X12_areDoings_6 at h
    refine a_iload ho dX12_areDoings_6 rfl 5 rfl ?_
    refine a_iload_n ho dX12_areDoings_8 rfl rfl 3 rfl ?_
    refine a_icmp_ge (tgt := 51) ho dX12_areDoings_9 rfl rfl (fun hc9 => ?_) (fun hc9 => ?_)
    · replace h := if_t hc9 h
      refine a_iload ho dX12_areDoings_51 rfl 4 rfl ?_
      obtain ⟨hk53, h⟩ := ck_el h
      exact a_zret ho dX12_areDoings_53 (nb_n hk53) (rI hr0 (ro_el h)) hs0
    · replace h := if_f hc9 h
      refine a_iload ho dX12_areDoings_12 rfl 4 rfl ?_
      refine a_if_eq (tgt := 42) ho dX12_areDoings_14 rfl rfl (fun hc14 => ?_) (fun hc14 => ?_)
      · replace h := if_t hc14 h
        exact a_sub [0, 1, 2, 3, 5] rfl (T_X12_areDoings_42 ho hr0 hs0 ih h)
      · replace h := if_f hc14 h
        refine a_aload_n ho dX12_areDoings_17 rfl rfl 0 rfl ?_
        refine a_aload_n ho dX12_areDoings_18 rfl rfl 0 rfl ?_
        refine a_getR ho fl_X12_44 o_82 fr_10_14 dX12_areDoings_19 rfl ?_
        refine a_bipush (v := 24) ho dX12_areDoings_22 rfl (by decide) ?_
        refine a_iload_n ho dX12_areDoings_24 rfl rfl 1 rfl ?_
        refine a_imul ho dX12_areDoings_25 rfl ?_
        refine a_iload_n ho dX12_areDoings_26 rfl rfl 2 rfl ?_
        refine a_iadd ho dX12_areDoings_27 rfl ?_
        refine a_iload ho dX12_areDoings_28 rfl 5 rfl ?_
        refine a_iadd ho dX12_areDoings_30 rfl ?_
        obtain ⟨hk31, h⟩ := ck_el h
        refine a_lald ho j_94 hk31 dX12_areDoings_31 rfl ?_
        obtain ⟨r32, hq32, h⟩ := ob_el h
        refine a_callVi ho vy_X12_isDoing ml_X12_175 o_82 (C_X12_isDoing hq32) rfl rfl (by decide) (Nat.le_of_ble_eq_true rfl) dX12_areDoings_32 rfl ?_
        refine a_if_eq (tgt := 42) ho dX12_areDoings_35 rfl rfl (fun hc35 => ?_) (fun hc35 => ?_)
        · replace h := if_t hc35 h
          exact a_sub [0, 1, 2, 3, 5] rfl (T_X12_areDoings_42 ho hr0 hs0 ih h)
        · replace h := if_f hc35 h
          refine a_iconst (v := 1) ho dX12_areDoings_38 rfl (by decide) ?_
          refine a_goto (tgt := 43) ho dX12_areDoings_39 rfl ?_
          exact a_sub [0, 1, 2, 3, 5] rfl (T_X12_areDoings_43 ho hr0 hs0 ih h)
theorem T_X12_areDoings_0 {G : gM} (ho : gOk G "WaxClothModel" cX12_areDoings 3 (some .boolean) 6) {r0 : Int32} (hr0 : gv0 G = some (.int r0)) {σ : gS} (hs0 : gs0 G = σ) {x1 : Int32} {x2 : Int32} {x3 : Int32} (h : F_X12_areDoings_0 x1 x2 x3 σ = some r0) : gAt G 0 [(0, .ref (gad G 82)), (1, .int x1), (2, .int x2), (3, .int x3)] [] σ := by
  unfold F_X12_areDoings_0 at h
  refine a_iconst (v := 1) ho dX12_areDoings_0 rfl (by decide) ?_
  refine a_istore (L' := [(4, .int 1), (0, .ref (gad G 82)), (1, .int x1), (2, .int x2), (3, .int x3)]) ho dX12_areDoings_1 rfl (by decide) rfl ?_
  refine a_iconst (v := 0) ho dX12_areDoings_3 rfl (by decide) ?_
  refine a_istore (L' := [(5, .int 0), (4, .int 1), (0, .ref (gad G 82)), (1, .int x1), (2, .int x2), (3, .int x3)]) ho dX12_areDoings_4 rfl (by decide) rfl ?_
  exact a_sub [2, 3, 4, 5, 1, 0] rfl (T_X12_areDoings_6 ho hr0 hs0 _ _ _ _ _ _ h)
theorem C_X12_areDoings {l : Launch} {X : gX} {σ : gS} {r0 : Int32} {a1 : Int32} {a2 : Int32} {a3 : Int32} (h : F_X12_areDoings_0 a1 a2 a3 σ = some r0) : gCt l X yX12_areDoings (.code yX12_areDoings cX12_areDoings 6 (some .boolean)) 3 [.ref (X.2.2.1 82), .int a1, .int a2, .int a3] σ (some (.int r0)) σ :=
  gCt_of cX12_areDoings (by decide) (Nat.le_of_ble_eq_true rfl) (fun G hl hX hv hs ho => by subst hl; subst hX; exact a_sub [0, 1, 2, 3] rfl (T_X12_areDoings_0 ho hv hs h))
theorem T_X12_ahead_86 {G : gM} (ho : gOk G "WaxClothModel" cX12_ahead 6 (some .int) 9) {r0 : Int32} (hr0 : gv0 G = some (.int r0)) {σ0 : gS} (hs0 : gs0 G = σ0) : ∀ (n : Nat) (x1 : Int32) (x2 : Int32) (x4 : Int32) (x5 : Int32) (x6 : Int32) (x8 : Int32) (σ : gS), F_X12_ahead_86 n x1 x2 x4 x5 x6 x8 σ = some (r0, σ0) → gAt G 86 [(0, .ref (gad G 82)), (1, .int x1), (2, .int x2), (4, .int x4), (5, .int x5), (6, .int x6), (8, .int x8)] [] σ := by
  intro n
  induction n with
  | zero => intro x1 x2 x4 x5 x6 x8 σ h; cases h
  | succ n ih =>
    intro x1 x2 x4 x5 x6 x8 σ h
    unfold F_X12_ahead_86 at h
    refine a_iload ho dX12_ahead_86 rfl 6 rfl ?_
    refine a_iload ho dX12_ahead_88 rfl 4 rfl ?_
    refine a_icmp_ge (tgt := 124) ho dX12_ahead_90 rfl rfl (fun hc90 => ?_) (fun hc90 => ?_)
    · replace h := if_t hc90 h
      refine a_iload ho dX12_ahead_124 rfl 5 rfl ?_
      refine a_if_ne (tgt := 140) ho dX12_ahead_126 rfl rfl (fun hc126 => ?_) (fun hc126 => ?_)
      · replace h := if_f hc126 h
        refine a_iload ho dX12_ahead_140 rfl 5 rfl ?_
        refine a_iconst (v := 1) ho dX12_ahead_142 rfl (by decide) ?_
        refine a_icmp_ne (tgt := 157) ho dX12_ahead_143 rfl rfl (fun hc143 => ?_) (fun hc143 => ?_)
        · replace h := if_f hc143 h
          refine a_aload_n ho dX12_ahead_157 rfl rfl 0 rfl ?_
          refine a_getR ho fl_X12_22 o_82 fr_10_4 dX12_ahead_158 rfl ?_
          refine a_bipush (v := 24) ho dX12_ahead_161 rfl (by decide) ?_
          refine a_iload_n ho dX12_ahead_163 rfl rfl 1 rfl ?_
          refine a_iadd ho dX12_ahead_164 rfl ?_
          obtain ⟨hk165, h⟩ := ck_el h
          refine a_iald ho i_87 hk165 dX12_ahead_165 rfl ?_
          exact a_iret ho dX12_ahead_166 (rI hr0 (re_el h).1) (rS hs0 (re_el h).2)
        · replace h := if_t hc143 h
          refine a_aload_n ho dX12_ahead_146 rfl rfl 0 rfl ?_
          refine a_getR ho fl_X12_22 o_82 fr_10_4 dX12_ahead_147 rfl ?_
          refine a_iload_n ho dX12_ahead_150 rfl rfl 1 rfl ?_
          obtain ⟨r151, hq151, h⟩ := ob_el h
          refine a_callSi ho vy_X12_darkOf ml_X12_123 (C_X12_darkOf i_87 hq151) rfl rfl (by decide) (Nat.le_of_ble_eq_true rfl) dX12_ahead_151 rfl ?_
          refine a_goto (tgt := 166) ho dX12_ahead_154 rfl ?_
          exact a_iret ho dX12_ahead_166 (rI hr0 (re_el h).1) (rS hs0 (re_el h).2)
      · replace h := if_t hc126 h
        refine a_aload_n ho dX12_ahead_129 rfl rfl 0 rfl ?_
        refine a_getR ho fl_X12_22 o_82 fr_10_4 dX12_ahead_130 rfl ?_
        refine a_iload_n ho dX12_ahead_133 rfl rfl 1 rfl ?_
        obtain ⟨r134, hq134, h⟩ := ob_el h
        refine a_callSi ho vy_X12_hueOf ml_X12_115 (C_X12_hueOf i_87 hq134) rfl rfl (by decide) (Nat.le_of_ble_eq_true rfl) dX12_ahead_134 rfl ?_
        refine a_goto (tgt := 166) ho dX12_ahead_137 rfl ?_
        exact a_iret ho dX12_ahead_166 (rI hr0 (re_el h).1) (rS hs0 (re_el h).2)
    · replace h := if_f hc90 h
      refine a_aload_n ho dX12_ahead_93 rfl rfl 0 rfl ?_
      refine a_aload_n ho dX12_ahead_94 rfl rfl 0 rfl ?_
      refine a_getR ho fl_X12_22 o_82 fr_10_4 dX12_ahead_95 rfl ?_
      refine a_iload_n ho dX12_ahead_98 rfl rfl 1 rfl ?_
      refine a_aload_n ho dX12_ahead_99 rfl rfl 0 rfl ?_
      refine a_getR ho fl_X12_44 o_82 fr_10_14 dX12_ahead_100 rfl ?_
      refine a_bipush (v := 24) ho dX12_ahead_103 rfl (by decide) ?_
      refine a_iload_n ho dX12_ahead_105 rfl rfl 2 rfl ?_
      refine a_imul ho dX12_ahead_106 rfl ?_
      refine a_iload ho dX12_ahead_107 rfl 3 rfl ?_
      refine a_iadd ho dX12_ahead_109 rfl ?_
      refine a_iload ho dX12_ahead_110 rfl 6 rfl ?_
      refine a_iadd ho dX12_ahead_112 rfl ?_
      obtain ⟨hk113, h⟩ := ck_el h
      refine a_lald ho j_94 hk113 dX12_ahead_113 rfl ?_
      refine a_l2i ho dX12_ahead_114 rfl ?_
      obtain ⟨σ115, hq115, h⟩ := ob_el h
      refine a_callVv ho vy_X12_doesOn ml_X12_158 o_82 (C_X12_doesOn i_87 hq115) rfl rfl (by decide) (Nat.le_of_ble_eq_true rfl) dX12_ahead_115 rfl ?_
      obtain ⟨x118, hb118, h⟩ := bd_el h
      refine a_iinc (L' := [(8, .int x118), (0, .ref (gad G 82)), (1, .int x1), (2, .int x2), (4, .int x4), (5, .int x5), (6, .int x6)]) ho dX12_ahead_118 rfl 6 rfl hb118 (by decide) rfl ?_
      refine a_goto (tgt := 86) ho dX12_ahead_121 rfl ?_
      exact a_sub [1, 2, 3, 4, 5, 6, 0] rfl (ih _ _ _ _ _ _ _ h)
theorem T_X12_ahead_0 {G : gM} (ho : gOk G "WaxClothModel" cX12_ahead 6 (some .int) 9) {r0 : Int32} (hr0 : gv0 G = some (.int r0)) {σ0 : gS} (hs0 : gs0 G = σ0) {x1 : Int32} {x2 : Int32} {x3 : Int32} {x4 : Int32} {x5 : Int32} {x6 : Int32} {σ : gS} (h : F_X12_ahead_0 x1 x2 x3 x4 x5 x6 σ = some (r0, σ0)) : gAt G 0 [(0, .ref (gad G 82)), (1, .int x1), (2, .int x2), (3, .int x3), (4, .int x4), (5, .int x5), (6, .int x6)] [] σ := by
  unfold F_X12_ahead_0 at h
  refine a_aload_n ho dX12_ahead_0 rfl rfl 0 rfl ?_
  refine a_iload_n ho dX12_ahead_1 rfl rfl 1 rfl ?_
  obtain ⟨r2, hq2, h⟩ := ob_el h
  refine a_callVi ho vy_X12_isSquare ml_X12_161 o_82 (C_X12_isSquare hq2) rfl rfl (by decide) (Nat.le_of_ble_eq_true rfl) dX12_ahead_2 rfl ?_
  refine a_if_eq (tgt := 42) ho dX12_ahead_5 rfl rfl (fun hc5 => ?_) (fun hc5 => ?_)
  · replace h := if_t hc5 h
    refine a_iconst (v := (-1)) ho dX12_ahead_42 rfl (by decide) ?_
    exact a_iret ho dX12_ahead_43 (rI hr0 (re_el h).1) (rS hs0 (re_el h).2)
  · replace h := if_f hc5 h
    refine a_iload_n ho dX12_ahead_8 rfl rfl 2 rfl ?_
    refine a_iload_n ho dX12_ahead_9 rfl rfl 3 rfl ?_
    refine a_callSi ho vy_X12_isSheet ml_X12_225 (C_X12_isSheet x2 x3) rfl rfl (by decide) (Nat.le_of_ble_eq_true rfl) dX12_ahead_10 rfl ?_
    refine a_if_eq (tgt := 42) ho dX12_ahead_13 rfl rfl (fun hc13 => ?_) (fun hc13 => ?_)
    · replace h := if_t hc13 h
      refine a_iconst (v := (-1)) ho dX12_ahead_42 rfl (by decide) ?_
      exact a_iret ho dX12_ahead_43 (rI hr0 (re_el h).1) (rS hs0 (re_el h).2)
    · replace h := if_f hc13 h
      refine a_iload ho dX12_ahead_16 rfl 5 rfl ?_
      refine a_i2l ho dX12_ahead_18 rfl ?_
      refine a_lconst (v := 0) ho dX12_ahead_19 rfl (by decide) ?_
      refine a_ldc2 ho dX12_ahead_20 rfl kk_X12_143 ?_
      refine a_callSi ho vy_X12_in ml_X12_59 (C_X12_in (Int32.toInt64 x5) 0 20) rfl rfl (by decide) (Nat.le_of_ble_eq_true rfl) dX12_ahead_23 rfl ?_
      refine a_if_eq (tgt := 42) ho dX12_ahead_26 rfl rfl (fun hc26 => ?_) (fun hc26 => ?_)
      · replace h := if_t hc26 h
        refine a_iconst (v := (-1)) ho dX12_ahead_42 rfl (by decide) ?_
        exact a_iret ho dX12_ahead_43 (rI hr0 (re_el h).1) (rS hs0 (re_el h).2)
      · replace h := if_f hc26 h
        refine a_iload ho dX12_ahead_29 rfl 6 rfl ?_
        refine a_i2l ho dX12_ahead_31 rfl ?_
        refine a_lconst (v := 0) ho dX12_ahead_32 rfl (by decide) ?_
        refine a_ldc2 ho dX12_ahead_33 rfl kk_X12_168 ?_
        refine a_callSi ho vy_X12_in ml_X12_59 (C_X12_in (Int32.toInt64 x6) 0 2) rfl rfl (by decide) (Nat.le_of_ble_eq_true rfl) dX12_ahead_36 rfl ?_
        refine a_if_ne (tgt := 44) ho dX12_ahead_39 rfl rfl (fun hc39 => ?_) (fun hc39 => ?_)
        · replace h := if_f hc39 h
          refine a_aload_n ho dX12_ahead_44 rfl rfl 0 rfl ?_
          refine a_iload_n ho dX12_ahead_45 rfl rfl 2 rfl ?_
          refine a_iload_n ho dX12_ahead_46 rfl rfl 3 rfl ?_
          refine a_iload ho dX12_ahead_47 rfl 4 rfl ?_
          refine a_iload ho dX12_ahead_49 rfl 5 rfl ?_
          obtain ⟨r51, hq51, h⟩ := ob_el h
          refine a_callVi ho vy_X12_found ml_X12_228 o_82 (C_X12_found hq51) rfl rfl (by decide) (Nat.le_of_ble_eq_true rfl) dX12_ahead_51 rfl ?_
          refine a_istore (L' := [(7, .int r51), (0, .ref (gad G 82)), (1, .int x1), (2, .int x2), (3, .int x3), (4, .int x4), (5, .int x5), (6, .int x6)]) ho dX12_ahead_54 rfl (by decide) rfl ?_
          refine a_iload ho dX12_ahead_56 rfl 0 rfl ?_
          refine a_if_ge (tgt := 64) ho dX12_ahead_58 rfl rfl (fun hc58 => ?_) (fun hc58 => ?_)
          · replace h := if_t hc58 h
            refine a_aload_n ho dX12_ahead_64 rfl rfl 1 rfl ?_
            refine a_iload_n ho dX12_ahead_65 rfl rfl 3 rfl ?_
            refine a_iload ho dX12_ahead_66 rfl 5 rfl ?_
            refine a_iload ho dX12_ahead_68 rfl 6 rfl ?_
            obtain ⟨r70, hq70, h⟩ := ob_el h
            refine a_callVi ho vy_X12_areDoings ml_X12_232 o_82 (C_X12_areDoings hq70) rfl rfl (by decide) (Nat.le_of_ble_eq_true rfl) dX12_ahead_70 rfl ?_
            refine a_if_ne (tgt := 79) ho dX12_ahead_73 rfl rfl (fun hc73 => ?_) (fun hc73 => ?_)
            · replace h := if_f hc73 h
              refine a_aload_n ho dX12_ahead_79 rfl rfl 1 rfl ?_
              obtain ⟨σ80, hq80, h⟩ := ob_el h
              refine a_callVv ho vy_X12_laysAside ml_X12_193 o_82 (C_X12_laysAside hq80) rfl rfl (by decide) (Nat.le_of_ble_eq_true rfl) dX12_ahead_80 rfl ?_
              refine a_iconst (v := 0) ho dX12_ahead_83 rfl (by decide) ?_
              refine a_istore (L' := [(8, .int 0), (7, .int r51), (0, .ref (gad G 82)), (1, .int x1), (2, .int x2), (3, .int x3), (4, .int x4), (5, .int x5), (6, .int x6)]) ho dX12_ahead_84 rfl (by decide) rfl ?_
              exact a_sub [2, 3, 4, 6, 7, 8, 0] rfl (T_X12_ahead_86 ho hr0 hs0 _ _ _ _ _ _ _ _ h)
            · replace h := if_t hc73 h
              refine a_bipush (v := (-2)) ho dX12_ahead_76 rfl (by decide) ?_
              exact a_iret ho dX12_ahead_78 (rI hr0 (re_el h).1) (rS hs0 (re_el h).2)
          · replace h := if_f hc58 h
            refine a_iload ho dX12_ahead_61 rfl 0 rfl ?_
            exact a_iret ho dX12_ahead_63 (rI hr0 (re_el h).1) (rS hs0 (re_el h).2)
        · replace h := if_t hc39 h
          refine a_iconst (v := (-1)) ho dX12_ahead_42 rfl (by decide) ?_
          exact a_iret ho dX12_ahead_43 (rI hr0 (re_el h).1) (rS hs0 (re_el h).2)
theorem C_X12_ahead {l : Launch} {X : gX} {σ σ0 : gS} {r0 : Int32} {a1 : Int32} {a2 : Int32} {a3 : Int32} {a4 : Int32} {a5 : Int32} {a6 : Int32} (h : F_X12_ahead_0 a1 a2 a3 a4 a5 a6 σ = some (r0, σ0)) : gCt l X yX12_ahead (.code yX12_ahead cX12_ahead 9 (some .int)) 6 [.ref (X.2.2.1 82), .int a1, .int a2, .int a3, .int a4, .int a5, .int a6] σ (some (.int r0)) σ0 :=
  gCt_of cX12_ahead (by decide) (Nat.le_of_ble_eq_true rfl) (fun G hl hX hv hs ho => by subst hl; subst hX; exact a_sub [0, 1, 2, 3, 4, 5, 6] rfl (T_X12_ahead_0 ho hv hs h))
theorem T_X12_codeOf_0 {G : gM} (ho : gOk G "WaxClothModel" cX12_codeOf 1 (some .int) 3) {r0 : Int32} (hr0 : gv0 G = some (.int r0)) {σ : gS} (hs0 : gs0 G = σ) {x1 : Int32} (h : F_X12_codeOf_0 x1 σ = some r0) : gAt G 0 [(0, .ref (gad G 82)), (1, .int x1)] [] σ := by
  unfold F_X12_codeOf_0 at h
  refine a_iconst (v := 0) ho dX12_codeOf_0 rfl (by decide) ?_
  refine a_iconst (v := 3) ho dX12_codeOf_1 rfl (by decide) ?_
  refine a_iload_n ho dX12_codeOf_2 rfl rfl 1 rfl ?_
  refine a_imul ho dX12_codeOf_3 rfl ?_
  refine a_iadd ho dX12_codeOf_4 rfl ?_
  obtain ⟨x5, hb5, h⟩ := bd_el h
  refine a_nmI hb5 ?_
  refine a_istore_n (L' := [(2, .int x5), (0, .ref (gad G 82)), (1, .int x1)]) ho dX12_codeOf_5 rfl rfl (by decide) rfl ?_
  refine a_iconst (v := 4) ho dX12_codeOf_6 rfl (by decide) ?_
  refine a_bipush (v := 100) ho dX12_codeOf_7 rfl (by decide) ?_
  refine a_aload_n ho dX12_codeOf_9 rfl rfl 1 rfl ?_
  refine a_getR ho fl_X12_22 o_82 fr_10_4 dX12_codeOf_10 rfl ?_
  refine a_iload_n ho dX12_codeOf_13 rfl rfl 0 rfl ?_
  obtain ⟨hk14, h⟩ := ck_el h
  refine a_iald ho i_87 hk14 dX12_codeOf_14 rfl ?_
  refine a_imul ho dX12_codeOf_15 rfl ?_
  refine a_bipush (v := 10) ho dX12_codeOf_16 rfl (by decide) ?_
  refine a_aload_n ho dX12_codeOf_18 rfl rfl 1 rfl ?_
  refine a_getR ho fl_X12_22 o_82 fr_10_4 dX12_codeOf_19 rfl ?_
  refine a_iload_n ho dX12_codeOf_22 rfl rfl 0 rfl ?_
  refine a_iconst (v := 1) ho dX12_codeOf_23 rfl (by decide) ?_
  refine a_iadd ho dX12_codeOf_24 rfl ?_
  obtain ⟨hk25, h⟩ := ck_el h
  refine a_iald ho i_87 hk25 dX12_codeOf_25 rfl ?_
  refine a_imul ho dX12_codeOf_26 rfl ?_
  refine a_iadd ho dX12_codeOf_27 rfl ?_
  refine a_aload_n ho dX12_codeOf_28 rfl rfl 1 rfl ?_
  refine a_getR ho fl_X12_22 o_82 fr_10_4 dX12_codeOf_29 rfl ?_
  refine a_iload_n ho dX12_codeOf_32 rfl rfl 0 rfl ?_
  refine a_iconst (v := 2) ho dX12_codeOf_33 rfl (by decide) ?_
  refine a_iadd ho dX12_codeOf_34 rfl ?_
  obtain ⟨hk35, h⟩ := ck_el h
  refine a_iald ho i_87 hk35 dX12_codeOf_35 rfl ?_
  refine a_iadd ho dX12_codeOf_36 rfl ?_
  refine a_imul ho dX12_codeOf_37 rfl ?_
  refine a_aload_n ho dX12_codeOf_38 rfl rfl 1 rfl ?_
  refine a_getR ho fl_X12_22 o_82 fr_10_4 dX12_codeOf_39 rfl ?_
  refine a_bipush (v := 24) ho dX12_codeOf_42 rfl (by decide) ?_
  refine a_iload_n ho dX12_codeOf_44 rfl rfl 2 rfl ?_
  refine a_iadd ho dX12_codeOf_45 rfl ?_
  obtain ⟨hk46, h⟩ := ck_el h
  refine a_iald ho i_87 hk46 dX12_codeOf_46 rfl ?_
  refine a_iadd ho dX12_codeOf_47 rfl ?_
  exact a_iret ho dX12_codeOf_48 (rI hr0 (ro_el h)) hs0
theorem C_X12_codeOf {l : Launch} {X : gX} {σ : gS} {r0 : Int32} {a1 : Int32} (h : F_X12_codeOf_0 a1 σ = some r0) : gCt l X yX12_codeOf (.code yX12_codeOf cX12_codeOf 3 (some .int)) 1 [.ref (X.2.2.1 82), .int a1] σ (some (.int r0)) σ :=
  gCt_of cX12_codeOf (by decide) (Nat.le_of_ble_eq_true rfl) (fun G hl hX hv hs ho => by subst hl; subst hX; exact a_sub [0, 1] rfl (T_X12_codeOf_0 ho hv hs h))
theorem T_X12_goesRound_59 {G : gM} (ho : gOk G "WaxClothModel" cX12_goesRound 6 none 7) (hr0 : gv0 G = none) {σ0 : gS} (hs0 : gs0 G = σ0) {g28 : Int32 → Int32 → Int32 → Int32 → Int32 → gS → Option gS} (hg28 : ∀ (x1 : Int32) (x2 : Int32) (x3 : Int32) (x4 : Int32) (x5 : Int32) (σ : gS), g28 x1 x2 x3 x4 x5 σ = some σ0 → gAt G 28 [(0, .ref (gad G 82)), (1, .int x1), (2, .int x2), (3, .int x3), (4, .int x4), (5, .int x5)] [] σ) : ∀ (n : Nat) (x1 : Int32) (x2 : Int32) (x3 : Int32) (x4 : Int32) (x5 : Int32) (x6 : Int32) (σ : gS), F_X12_goesRound_59 g28 n x1 x2 x3 x4 x5 x6 σ = some σ0 → gAt G 59 [(0, .ref (gad G 82)), (1, .int x1), (2, .int x2), (3, .int x3), (4, .int x4), (5, .int x5), (6, .int x6)] [] σ := by
  intro n
  induction n with
  | zero => intro x1 x2 x3 x4 x5 x6 σ h; cases h
  | succ n ih =>
    intro x1 x2 x3 x4 x5 x6 σ h
    unfold F_X12_goesRound_59 at h
    refine a_iload ho dX12_goesRound_59 rfl 6 rfl ?_
    refine a_iload ho dX12_goesRound_61 rfl 4 rfl ?_
    refine a_icmp_ge (tgt := 96) ho dX12_goesRound_63 rfl rfl (fun hc63 => ?_) (fun hc63 => ?_)
    · replace h := if_t hc63 h
      refine a_goto (tgt := 28) ho dX12_goesRound_96 rfl ?_
      exact a_sub [0, 1, 2, 3, 4, 5] rfl (hg28 _ _ _ _ _ _ h)
    · replace h := if_f hc63 h
      refine a_aload_n ho dX12_goesRound_66 rfl rfl 0 rfl ?_
      refine a_aload_n ho dX12_goesRound_67 rfl rfl 0 rfl ?_
      refine a_getR ho fl_X12_22 o_82 fr_10_4 dX12_goesRound_68 rfl ?_
      refine a_iload_n ho dX12_goesRound_71 rfl rfl 1 rfl ?_
      refine a_aload_n ho dX12_goesRound_72 rfl rfl 0 rfl ?_
      refine a_getR ho fl_X12_44 o_82 fr_10_14 dX12_goesRound_73 rfl ?_
      refine a_bipush (v := 24) ho dX12_goesRound_76 rfl (by decide) ?_
      refine a_iload_n ho dX12_goesRound_78 rfl rfl 2 rfl ?_
      refine a_imul ho dX12_goesRound_79 rfl ?_
      refine a_iload_n ho dX12_goesRound_80 rfl rfl 3 rfl ?_
      refine a_iadd ho dX12_goesRound_81 rfl ?_
      refine a_iload ho dX12_goesRound_82 rfl 6 rfl ?_
      refine a_iadd ho dX12_goesRound_84 rfl ?_
      obtain ⟨hk85, h⟩ := ck_el h
      refine a_lald ho j_94 hk85 dX12_goesRound_85 rfl ?_
      refine a_l2i ho dX12_goesRound_86 rfl ?_
      obtain ⟨σ87, hq87, h⟩ := ob_el h
      refine a_callVv ho vy_X12_doesOn ml_X12_158 o_82 (C_X12_doesOn i_87 hq87) rfl rfl (by decide) (Nat.le_of_ble_eq_true rfl) dX12_goesRound_87 rfl ?_
      obtain ⟨x90, hb90, h⟩ := bd_el h
      refine a_iinc (L' := [(6, .int x90), (0, .ref (gad G 82)), (1, .int x1), (2, .int x2), (3, .int x3), (4, .int x4), (5, .int x5)]) ho dX12_goesRound_90 rfl 6 rfl hb90 (by decide) rfl ?_
      refine a_goto (tgt := 59) ho dX12_goesRound_93 rfl ?_
      exact a_sub [1, 2, 3, 4, 5, 6, 0] rfl (ih _ _ _ _ _ _ _ h)
theorem T_X12_goesRound_28 {G : gM} (ho : gOk G "WaxClothModel" cX12_goesRound 6 none 7) (hr0 : gv0 G = none) {σ0 : gS} (hs0 : gs0 G = σ0) : ∀ (n : Nat) (x1 : Int32) (x2 : Int32) (x3 : Int32) (x4 : Int32) (x5 : Int32) (σ : gS), F_X12_goesRound_28 n x1 x2 x3 x4 x5 σ = some σ0 → gAt G 28 [(0, .ref (gad G 82)), (1, .int x1), (2, .int x2), (3, .int x3), (4, .int x4), (5, .int x5)] [] σ := by
  intro n
  induction n with
  | zero => intro x1 x2 x3 x4 x5 σ h; cases h
  | succ n ih =>
    intro x1 x2 x3 x4 x5 σ h
    unfold F_X12_goesRound_28 at h
    refine a_aload_n ho dX12_goesRound_28 rfl rfl 0 rfl ?_
    refine a_getR ho fl_X12_54 o_82 fr_10_19 dX12_goesRound_29 rfl ?_
    refine a_aload_n ho dX12_goesRound_32 rfl rfl 0 rfl ?_
    refine a_iload_n ho dX12_goesRound_33 rfl rfl 1 rfl ?_
    obtain ⟨r34, hq34, h⟩ := ob_el h
    refine a_callVi ho vy_X12_codeOf ml_X12_236 o_82 (C_X12_codeOf hq34) rfl rfl (by decide) (Nat.le_of_ble_eq_true rfl) dX12_goesRound_34 rfl ?_
    obtain ⟨hk37, h⟩ := ck_el h
    refine a_iald ho i_97 hk37 dX12_goesRound_37 rfl ?_
    refine a_if_ne (tgt := 99) ho dX12_goesRound_38 rfl rfl (fun hc38 => ?_) (fun hc38 => ?_)
    · replace h := if_f hc38 h
      refine a_aload_n ho dX12_goesRound_99 rfl rfl 0 rfl ?_
      refine a_aload_n ho dX12_goesRound_100 rfl rfl 0 rfl ?_
      refine a_getR ho fl_X12_54 o_82 fr_10_19 dX12_goesRound_101 rfl ?_
      refine a_aload_n ho dX12_goesRound_104 rfl rfl 0 rfl ?_
      refine a_iload_n ho dX12_goesRound_105 rfl rfl 1 rfl ?_
      obtain ⟨r106, hq106, h⟩ := ob_el h
      refine a_callVi ho vy_X12_codeOf ml_X12_236 o_82 (C_X12_codeOf hq106) rfl rfl (by decide) (Nat.le_of_ble_eq_true rfl) dX12_goesRound_106 rfl ?_
      obtain ⟨hk109, h⟩ := ck_el h
      refine a_iald ho i_97 hk109 dX12_goesRound_109 rfl ?_
      refine a_iconst (v := 1) ho dX12_goesRound_110 rfl (by decide) ?_
      refine a_isub ho dX12_goesRound_111 rfl ?_
      refine a_putI ho fp_X12_239 o_82 (ff_10_20 _ o_82) dX12_goesRound_112 rfl ?_
      obtain ⟨σ112, hs112, h⟩ := bd_el h
      refine a_nmS hs112 ?_
      refine a_aload_n ho dX12_goesRound_115 rfl rfl 0 rfl ?_
      refine a_iload ho dX12_goesRound_116 rfl 5 rfl ?_
      refine a_aload_n ho dX12_goesRound_118 rfl rfl 0 rfl ?_
      refine a_getI ho fl_X12_239 o_82 (ff_10_20 _ o_82) dX12_goesRound_119 rfl ?_
      refine a_isub ho dX12_goesRound_122 rfl ?_
      refine a_putI ho fp_X12_242 o_82 (ff_10_21 _ o_82) dX12_goesRound_123 rfl ?_
      obtain ⟨σ123, hs123, h⟩ := bd_el h
      refine a_nmS hs123 ?_
      exact a_vret ho dX12_goesRound_126 hr0 (rS hs0 (ro_el h))
    · replace h := if_t hc38 h
      obtain ⟨x41, hb41, h⟩ := bd_el h
      refine a_iinc (L' := [(5, .int x41), (0, .ref (gad G 82)), (1, .int x1), (2, .int x2), (3, .int x3), (4, .int x4)]) ho dX12_goesRound_41 rfl 5 rfl hb41 (by decide) rfl ?_
      refine a_aload_n ho dX12_goesRound_44 rfl rfl 1 rfl ?_
      refine a_getR ho fl_X12_54 o_82 fr_10_19 dX12_goesRound_45 rfl ?_
      refine a_aload_n ho dX12_goesRound_48 rfl rfl 1 rfl ?_
      refine a_iload_n ho dX12_goesRound_49 rfl rfl 2 rfl ?_
      obtain ⟨r50, hq50, h⟩ := ob_el h
      refine a_callVi ho vy_X12_codeOf ml_X12_236 o_82 (C_X12_codeOf hq50) rfl rfl (by decide) (Nat.le_of_ble_eq_true rfl) dX12_goesRound_50 rfl ?_
      refine a_iload ho dX12_goesRound_53 rfl 0 rfl ?_
      obtain ⟨hk55, h⟩ := ck_el h
      refine a_iast ho i_97 hk55 dX12_goesRound_55 rfl ?_
      obtain ⟨σ55, hs55, h⟩ := bd_el h
      refine a_nmS hs55 ?_
      refine a_iconst (v := 0) ho dX12_goesRound_56 rfl (by decide) ?_
      refine a_istore (L' := [(6, .int 0), (5, .int x41), (0, .ref (gad G 82)), (1, .int x1), (2, .int x2), (3, .int x3), (4, .int x4)]) ho dX12_goesRound_57 rfl (by decide) rfl ?_
      exact a_sub [2, 3, 4, 5, 6, 1, 0] rfl (T_X12_goesRound_59 ho hr0 hs0 ih _ _ _ _ _ _ _ _ h)
theorem T_X12_goesRound_3 {G : gM} (ho : gOk G "WaxClothModel" cX12_goesRound 6 none 7) (hr0 : gv0 G = none) {σ0 : gS} (hs0 : gs0 G = σ0) : ∀ (n : Nat) (x1 : Int32) (x2 : Int32) (x3 : Int32) (x4 : Int32) (x5 : Int32) (σ : gS), F_X12_goesRound_3 n x1 x2 x3 x4 x5 σ = some σ0 → gAt G 3 [(0, .ref (gad G 82)), (1, .int x1), (2, .int x2), (3, .int x3), (4, .int x4), (5, .int x5)] [] σ := by
  intro n
  induction n with
  | zero => intro x1 x2 x3 x4 x5 σ h; cases h
  | succ n ih =>
    intro x1 x2 x3 x4 x5 σ h
    unfold F_X12_goesRound_3 at h
    refine a_iload ho dX12_goesRound_3 rfl 5 rfl ?_
    refine a_sipush (v := 4000) ho dX12_goesRound_5 rfl (by decide) ?_
    refine a_icmp_ge (tgt := 25) ho dX12_goesRound_8 rfl rfl (fun hc8 => ?_) (fun hc8 => ?_)
    · replace h := if_t hc8 h
      refine a_iconst (v := 0) ho dX12_goesRound_25 rfl (by decide) ?_
      refine a_istore (L' := [(5, .int 0), (0, .ref (gad G 82)), (1, .int x1), (2, .int x2), (3, .int x3), (4, .int x4)]) ho dX12_goesRound_26 rfl (by decide) rfl ?_
      exact a_sub [1, 2, 3, 4, 5, 0] rfl (T_X12_goesRound_28 ho hr0 hs0 _ _ _ _ _ _ _ h)
    · replace h := if_f hc8 h
      refine a_aload_n ho dX12_goesRound_11 rfl rfl 0 rfl ?_
      refine a_getR ho fl_X12_54 o_82 fr_10_19 dX12_goesRound_12 rfl ?_
      refine a_iload ho dX12_goesRound_15 rfl 5 rfl ?_
      refine a_iconst (v := 0) ho dX12_goesRound_17 rfl (by decide) ?_
      obtain ⟨hk18, h⟩ := ck_el h
      refine a_iast ho i_97 hk18 dX12_goesRound_18 rfl ?_
      obtain ⟨σ18, hs18, h⟩ := bd_el h
      refine a_nmS hs18 ?_
      obtain ⟨x19, hb19, h⟩ := bd_el h
      refine a_iinc (L' := [(5, .int x19), (0, .ref (gad G 82)), (1, .int x1), (2, .int x2), (3, .int x3), (4, .int x4)]) ho dX12_goesRound_19 rfl 5 rfl hb19 (by decide) rfl ?_
      refine a_goto (tgt := 3) ho dX12_goesRound_22 rfl ?_
      exact a_sub [1, 2, 3, 4, 5, 0] rfl (ih _ _ _ _ _ _ h)
theorem T_X12_goesRound_0 {G : gM} (ho : gOk G "WaxClothModel" cX12_goesRound 6 none 7) (hr0 : gv0 G = none) {σ0 : gS} (hs0 : gs0 G = σ0) {x1 : Int32} {x2 : Int32} {x3 : Int32} {x4 : Int32} {σ : gS} (h : F_X12_goesRound_0 x1 x2 x3 x4 σ = some σ0) : gAt G 0 [(0, .ref (gad G 82)), (1, .int x1), (2, .int x2), (3, .int x3), (4, .int x4)] [] σ := by
  unfold F_X12_goesRound_0 at h
  refine a_iconst (v := 0) ho dX12_goesRound_0 rfl (by decide) ?_
  refine a_istore (L' := [(5, .int 0), (0, .ref (gad G 82)), (1, .int x1), (2, .int x2), (3, .int x3), (4, .int x4)]) ho dX12_goesRound_1 rfl (by decide) rfl ?_
  exact a_sub [1, 2, 3, 4, 5, 0] rfl (T_X12_goesRound_3 ho hr0 hs0 _ _ _ _ _ _ _ h)
theorem C_X12_goesRound {l : Launch} {X : gX} {σ σ0 : gS} {a1 : Int32} {a2 : Int32} {a3 : Int32} {a4 : Int32} (h : F_X12_goesRound_0 a1 a2 a3 a4 σ = some σ0) : gCt l X yX12_goesRound (.code yX12_goesRound cX12_goesRound 7 none) 6 [.ref (X.2.2.1 82), .int a1, .int a2, .int a3, .int a4] σ (none) σ0 :=
  gCt_of cX12_goesRound (by decide) (Nat.le_of_ble_eq_true rfl) (fun G hl hX hv hs ho => by subst hl; subst hX; exact a_sub [0, 1, 2, 3, 4] rfl (T_X12_goesRound_0 ho hv hs h))
theorem T_X12_round_134 {G : gM} (ho : gOk G "WaxClothModel" cX12_round 7 (some .int) 11) {r0 : Int32} (hr0 : gv0 G = some (.int r0)) {σ0 : gS} (hs0 : gs0 G = σ0) {g89 : Int32 → Int32 → Int32 → Int32 → Int32 → Int32 → Int32 → gS → Option (Int32 × gS)} (hg89 : ∀ (x1 : Int32) (x3 : Int32) (x4 : Int32) (x5 : Int32) (x7 : Int32) (x8 : Int32) (x9 : Int32) (σ : gS), g89 x1 x3 x4 x5 x7 x8 x9 σ = some (r0, σ0) → gAt G 89 [(0, .ref (gad G 82)), (1, .int x1), (3, .int x3), (4, .int x4), (5, .int x5), (7, .int x7), (8, .int x8), (9, .int x9)] [] σ) : ∀ (n : Nat) (x1 : Int32) (x3 : Int32) (x4 : Int32) (x5 : Int32) (x7 : Int32) (x8 : Int32) (x9 : Int32) (x10 : Int32) (σ : gS), F_X12_round_134 g89 n x1 x3 x4 x5 x7 x8 x9 x10 σ = some (r0, σ0) → gAt G 134 [(0, .ref (gad G 82)), (1, .int x1), (3, .int x3), (4, .int x4), (5, .int x5), (7, .int x7), (8, .int x8), (9, .int x9), (10, .int x10)] [] σ := by
  intro n
  induction n with
  | zero => intro x1 x3 x4 x5 x7 x8 x9 x10 σ h; cases h
  | succ n ih =>
    intro x1 x3 x4 x5 x7 x8 x9 x10 σ h
    unfold F_X12_round_134 at h
    refine a_iload ho dX12_round_134 rfl 6 rfl ?_
    refine a_aload_n ho dX12_round_136 rfl rfl 0 rfl ?_
    refine a_getI ho fl_X12_242 o_82 (ff_10_21 _ o_82) dX12_round_137 rfl ?_
    obtain ⟨hk140, h⟩ := ck_el h
    refine a_irem ho dX12_round_140 rfl hk140 ?_
    refine a_if_eq (tgt := 154) ho dX12_round_141 rfl rfl (fun hc141 => ?_) (fun hc141 => ?_)
    · replace h := if_t hc141 h
      obtain ⟨x154, hb154, h⟩ := bd_el h
      refine a_iinc (L' := [(9, .int x154), (0, .ref (gad G 82)), (1, .int x1), (3, .int x3), (4, .int x4), (5, .int x5), (7, .int x7), (8, .int x8), (10, .int x10)]) ho dX12_round_154 rfl 7 rfl hb154 (by decide) rfl ?_
      refine a_goto (tgt := 89) ho dX12_round_157 rfl ?_
      exact a_sub [1, 2, 3, 4, 5, 6, 7, 0] rfl (hg89 _ _ _ _ _ _ _ _ h)
    · replace h := if_f hc141 h
      refine a_iload ho dX12_round_144 rfl 6 rfl ?_
      refine a_iload ho dX12_round_146 rfl 8 rfl ?_
      refine a_iadd ho dX12_round_148 rfl ?_
      obtain ⟨x149, hb149, h⟩ := bd_el h
      refine a_nmI hb149 ?_
      refine a_istore (L' := [(8, .int x149), (0, .ref (gad G 82)), (1, .int x1), (3, .int x3), (4, .int x4), (5, .int x5), (7, .int x7), (9, .int x9), (10, .int x10)]) ho dX12_round_149 rfl (by decide) rfl ?_
      refine a_goto (tgt := 134) ho dX12_round_151 rfl ?_
      exact a_sub [1, 2, 3, 4, 5, 6, 0, 7, 8] rfl (ih _ _ _ _ _ _ _ _ _ h)
theorem T_X12_round_128 {G : gM} (ho : gOk G "WaxClothModel" cX12_round 7 (some .int) 11) {r0 : Int32} (hr0 : gv0 G = some (.int r0)) {σ0 : gS} (hs0 : gs0 G = σ0) {g89 : Int32 → Int32 → Int32 → Int32 → Int32 → Int32 → Int32 → gS → Option (Int32 × gS)} (hg89 : ∀ (x1 : Int32) (x3 : Int32) (x4 : Int32) (x5 : Int32) (x7 : Int32) (x8 : Int32) (x9 : Int32) (σ : gS), g89 x1 x3 x4 x5 x7 x8 x9 σ = some (r0, σ0) → gAt G 89 [(0, .ref (gad G 82)), (1, .int x1), (3, .int x3), (4, .int x4), (5, .int x5), (7, .int x7), (8, .int x8), (9, .int x9)] [] σ) {x1 : Int32} {x3 : Int32} {x4 : Int32} {x5 : Int32} {x8 : Int32} {x9 : Int32} {y0 : Int32} {σ : gS} (h : F_X12_round_128 g89 x1 x3 x4 x5 x8 x9 y0 σ = some (r0, σ0)) : gAt G 128 [(0, .ref (gad G 82)), (1, .int x1), (3, .int x3), (4, .int x4), (5, .int x5), (8, .int x8), (9, .int x9)] [.int y0] σ := by
  unfold F_X12_round_128 at h
  refine a_istore (L' := [(7, .int y0), (0, .ref (gad G 82)), (1, .int x1), (3, .int x3), (4, .int x4), (5, .int x5), (8, .int x8), (9, .int x9)]) ho dX12_round_128 rfl (by decide) rfl ?_
  refine a_iload ho dX12_round_130 rfl 6 rfl ?_
  refine a_istore (L' := [(10, .int x8), (7, .int y0), (0, .ref (gad G 82)), (1, .int x1), (3, .int x3), (4, .int x4), (5, .int x5), (8, .int x8), (9, .int x9)]) ho dX12_round_132 rfl (by decide) rfl ?_
  exact a_sub [2, 3, 4, 5, 6, 1, 7, 8, 0] rfl (T_X12_round_134 ho hr0 hs0 hg89 _ _ _ _ _ _ _ _ _ _ h)
theorem T_X12_round_89 {G : gM} (ho : gOk G "WaxClothModel" cX12_round 7 (some .int) 11) {r0 : Int32} (hr0 : gv0 G = some (.int r0)) {σ0 : gS} (hs0 : gs0 G = σ0) : ∀ (n : Nat) (x1 : Int32) (x3 : Int32) (x4 : Int32) (x5 : Int32) (x7 : Int32) (x8 : Int32) (x9 : Int32) (σ : gS), F_X12_round_89 n x1 x3 x4 x5 x7 x8 x9 σ = some (r0, σ0) → gAt G 89 [(0, .ref (gad G 82)), (1, .int x1), (3, .int x3), (4, .int x4), (5, .int x5), (7, .int x7), (8, .int x8), (9, .int x9)] [] σ := by
  intro n
  induction n with
  | zero => intro x1 x3 x4 x5 x7 x8 x9 σ h; cases h
  | succ n ih =>
    intro x1 x3 x4 x5 x7 x8 x9 σ h
    unfold F_X12_round_89 at h
    refine a_iload ho dX12_round_89 rfl 7 rfl ?_
    refine a_aload_n ho dX12_round_91 rfl rfl 0 rfl ?_
    refine a_getR ho fl_X12_7 o_82 fr_10_0 dX12_round_92 rfl ?_
    refine a_iconst (v := 0) ho dX12_round_95 rfl (by decide) ?_
    refine a_iald ho i_83 (by decide) dX12_round_96 rfl ?_
    refine a_nmI (x := σ.1 83 0) rfl ?_
    refine a_icmp_ge (tgt := 160) ho dX12_round_97 rfl rfl (fun hc97 => ?_) (fun hc97 => ?_)
    · replace h := if_t hc97 h
      refine a_iload ho dX12_round_160 rfl 4 rfl ?_
      refine a_if_ne (tgt := 170) ho dX12_round_162 rfl rfl (fun hc162 => ?_) (fun hc162 => ?_)
      · replace h := if_f hc162 h
        refine a_iload ho dX12_round_170 rfl 6 rfl ?_
        exact a_iret ho dX12_round_172 (rI hr0 (re_el h).1) (rS hs0 (re_el h).2)
      · replace h := if_t hc162 h
        refine a_iload ho dX12_round_165 rfl 5 rfl ?_
        refine a_goto (tgt := 172) ho dX12_round_167 rfl ?_
        exact a_iret ho dX12_round_172 (rI hr0 (re_el h).1) (rS hs0 (re_el h).2)
    · replace h := if_f hc97 h
      refine a_aload_n ho dX12_round_100 rfl rfl 0 rfl ?_
      refine a_iload ho dX12_round_101 rfl 7 rfl ?_
      refine a_iload_n ho dX12_round_103 rfl rfl 1 rfl ?_
      refine a_iload_n ho dX12_round_104 rfl rfl 2 rfl ?_
      refine a_iload ho dX12_round_105 rfl 3 rfl ?_
      obtain ⟨σ107, hq107, h⟩ := ob_el h
      refine a_callVv ho vy_X12_goesRound ml_X12_245 o_82 (C_X12_goesRound hq107) rfl rfl (by decide) (Nat.le_of_ble_eq_true rfl) dX12_round_107 rfl ?_
      refine a_aload_n ho dX12_round_110 rfl rfl 0 rfl ?_
      refine a_getI ho fl_X12_239 o_82 (ff_10_20 _ o_82) dX12_round_111 rfl ?_
      refine a_iload ho dX12_round_114 rfl 5 rfl ?_
      refine a_icmp_le (tgt := 126) ho dX12_round_116 rfl rfl (fun hc116 => ?_) (fun hc116 => ?_)
      · replace h := if_t hc116 h
        refine a_iload ho dX12_round_126 rfl 5 rfl ?_
        exact a_sub [0, 1, 2, 3, 4, 6, 7] rfl (T_X12_round_128 ho hr0 hs0 ih h)
      · replace h := if_f hc116 h
        refine a_aload_n ho dX12_round_119 rfl rfl 0 rfl ?_
        refine a_getI ho fl_X12_239 o_82 (ff_10_20 _ o_82) dX12_round_120 rfl ?_
        refine a_goto (tgt := 128) ho dX12_round_123 rfl ?_
        exact a_sub [0, 1, 2, 3, 4, 6, 7] rfl (T_X12_round_128 ho hr0 hs0 ih h)
theorem T_X12_round_0 {G : gM} (ho : gOk G "WaxClothModel" cX12_round 7 (some .int) 11) {r0 : Int32} (hr0 : gv0 G = some (.int r0)) {σ0 : gS} (hs0 : gs0 G = σ0) {x1 : Int32} {x2 : Int32} {x3 : Int32} {x4 : Int32} {x5 : Int32} {σ : gS} (h : F_X12_round_0 x1 x2 x3 x4 x5 σ = some (r0, σ0)) : gAt G 0 [(0, .ref (gad G 82)), (1, .int x1), (2, .int x2), (3, .int x3), (4, .int x4), (5, .int x5)] [] σ := by
  unfold F_X12_round_0 at h
  refine a_aload_n ho dX12_round_0 rfl rfl 0 rfl ?_
  refine a_getR ho fl_X12_7 o_82 fr_10_0 dX12_round_1 rfl ?_
  refine a_iconst (v := 0) ho dX12_round_4 rfl (by decide) ?_
  refine a_iald ho i_83 (by decide) dX12_round_5 rfl ?_
  refine a_nmI (x := σ.1 83 0) rfl ?_
  refine a_if_eq (tgt := 41) ho dX12_round_6 rfl rfl (fun hc6 => ?_) (fun hc6 => ?_)
  · replace h := if_t hc6 h
    refine a_iconst (v := (-1)) ho dX12_round_41 rfl (by decide) ?_
    exact a_iret ho dX12_round_42 (rI hr0 (re_el h).1) (rS hs0 (re_el h).2)
  · replace h := if_f hc6 h
    refine a_iload_n ho dX12_round_9 rfl rfl 1 rfl ?_
    refine a_iload_n ho dX12_round_10 rfl rfl 2 rfl ?_
    refine a_callSi ho vy_X12_isSheet ml_X12_225 (C_X12_isSheet x1 x2) rfl rfl (by decide) (Nat.le_of_ble_eq_true rfl) dX12_round_11 rfl ?_
    refine a_if_eq (tgt := 41) ho dX12_round_14 rfl rfl (fun hc14 => ?_) (fun hc14 => ?_)
    · replace h := if_t hc14 h
      refine a_iconst (v := (-1)) ho dX12_round_41 rfl (by decide) ?_
      exact a_iret ho dX12_round_42 (rI hr0 (re_el h).1) (rS hs0 (re_el h).2)
    · replace h := if_f hc14 h
      refine a_iload ho dX12_round_17 rfl 4 rfl ?_
      refine a_i2l ho dX12_round_19 rfl ?_
      refine a_lconst (v := 1) ho dX12_round_20 rfl (by decide) ?_
      refine a_ldc2 ho dX12_round_21 rfl kk_X12_143 ?_
      refine a_callSi ho vy_X12_in ml_X12_59 (C_X12_in (Int32.toInt64 x4) 1 20) rfl rfl (by decide) (Nat.le_of_ble_eq_true rfl) dX12_round_24 rfl ?_
      refine a_if_eq (tgt := 41) ho dX12_round_27 rfl rfl (fun hc27 => ?_) (fun hc27 => ?_)
      · replace h := if_t hc27 h
        refine a_iconst (v := (-1)) ho dX12_round_41 rfl (by decide) ?_
        exact a_iret ho dX12_round_42 (rI hr0 (re_el h).1) (rS hs0 (re_el h).2)
      · replace h := if_f hc27 h
        refine a_iload ho dX12_round_30 rfl 5 rfl ?_
        refine a_i2l ho dX12_round_32 rfl ?_
        refine a_lconst (v := 0) ho dX12_round_33 rfl (by decide) ?_
        refine a_lconst (v := 1) ho dX12_round_34 rfl (by decide) ?_
        refine a_callSi ho vy_X12_in ml_X12_59 (C_X12_in (Int32.toInt64 x5) 0 1) rfl rfl (by decide) (Nat.le_of_ble_eq_true rfl) dX12_round_35 rfl ?_
        refine a_if_ne (tgt := 43) ho dX12_round_38 rfl rfl (fun hc38 => ?_) (fun hc38 => ?_)
        · replace h := if_f hc38 h
          refine a_aload_n ho dX12_round_43 rfl rfl 0 rfl ?_
          refine a_iload_n ho dX12_round_44 rfl rfl 1 rfl ?_
          refine a_iload_n ho dX12_round_45 rfl rfl 2 rfl ?_
          refine a_iload_n ho dX12_round_46 rfl rfl 3 rfl ?_
          refine a_iload ho dX12_round_47 rfl 4 rfl ?_
          obtain ⟨r49, hq49, h⟩ := ob_el h
          refine a_callVi ho vy_X12_found ml_X12_228 o_82 (C_X12_found hq49) rfl rfl (by decide) (Nat.le_of_ble_eq_true rfl) dX12_round_49 rfl ?_
          refine a_istore (L' := [(6, .int r49), (0, .ref (gad G 82)), (1, .int x1), (2, .int x2), (3, .int x3), (4, .int x4), (5, .int x5)]) ho dX12_round_52 rfl (by decide) rfl ?_
          refine a_iload ho dX12_round_54 rfl 0 rfl ?_
          refine a_if_ge (tgt := 62) ho dX12_round_56 rfl rfl (fun hc56 => ?_) (fun hc56 => ?_)
          · replace h := if_t hc56 h
            refine a_aload_n ho dX12_round_62 rfl rfl 1 rfl ?_
            refine a_iload_n ho dX12_round_63 rfl rfl 2 rfl ?_
            refine a_iload_n ho dX12_round_64 rfl rfl 4 rfl ?_
            refine a_iload ho dX12_round_65 rfl 5 rfl ?_
            obtain ⟨r67, hq67, h⟩ := ob_el h
            refine a_callVi ho vy_X12_areDoings ml_X12_232 o_82 (C_X12_areDoings hq67) rfl rfl (by decide) (Nat.le_of_ble_eq_true rfl) dX12_round_67 rfl ?_
            refine a_if_ne (tgt := 76) ho dX12_round_70 rfl rfl (fun hc70 => ?_) (fun hc70 => ?_)
            · replace h := if_f hc70 h
              refine a_aload_n ho dX12_round_76 rfl rfl 1 rfl ?_
              obtain ⟨σ77, hq77, h⟩ := ob_el h
              refine a_callVv ho vy_X12_laysAside ml_X12_193 o_82 (C_X12_laysAside hq77) rfl rfl (by decide) (Nat.le_of_ble_eq_true rfl) dX12_round_77 rfl ?_
              refine a_iconst (v := 0) ho dX12_round_80 rfl (by decide) ?_
              refine a_istore (L' := [(7, .int 0), (6, .int r49), (0, .ref (gad G 82)), (1, .int x1), (2, .int x2), (3, .int x3), (4, .int x4), (5, .int x5)]) ho dX12_round_81 rfl (by decide) rfl ?_
              refine a_iconst (v := 1) ho dX12_round_83 rfl (by decide) ?_
              refine a_istore (L' := [(8, .int 1), (7, .int 0), (6, .int r49), (0, .ref (gad G 82)), (1, .int x1), (2, .int x2), (3, .int x3), (4, .int x4), (5, .int x5)]) ho dX12_round_84 rfl (by decide) rfl ?_
              refine a_iconst (v := 0) ho dX12_round_86 rfl (by decide) ?_
              refine a_istore (L' := [(9, .int 0), (8, .int 1), (7, .int 0), (6, .int r49), (0, .ref (gad G 82)), (1, .int x1), (2, .int x2), (3, .int x3), (4, .int x4), (5, .int x5)]) ho dX12_round_87 rfl (by decide) rfl ?_
              exact a_sub [4, 5, 7, 8, 9, 2, 1, 0] rfl (T_X12_round_89 ho hr0 hs0 _ _ _ _ _ _ _ _ _ h)
            · replace h := if_t hc70 h
              refine a_bipush (v := (-2)) ho dX12_round_73 rfl (by decide) ?_
              exact a_iret ho dX12_round_75 (rI hr0 (re_el h).1) (rS hs0 (re_el h).2)
          · replace h := if_f hc56 h
            refine a_iload ho dX12_round_59 rfl 0 rfl ?_
            exact a_iret ho dX12_round_61 (rI hr0 (re_el h).1) (rS hs0 (re_el h).2)
        · replace h := if_t hc38 h
          refine a_iconst (v := (-1)) ho dX12_round_41 rfl (by decide) ?_
          exact a_iret ho dX12_round_42 (rI hr0 (re_el h).1) (rS hs0 (re_el h).2)
theorem C_X12_round {l : Launch} {X : gX} {σ σ0 : gS} {r0 : Int32} {a1 : Int32} {a2 : Int32} {a3 : Int32} {a4 : Int32} {a5 : Int32} (h : F_X12_round_0 a1 a2 a3 a4 a5 σ = some (r0, σ0)) : gCt l X yX12_round (.code yX12_round cX12_round 11 (some .int)) 7 [.ref (X.2.2.1 82), .int a1, .int a2, .int a3, .int a4, .int a5] σ (some (.int r0)) σ0 :=
  gCt_of cX12_round (by decide) (Nat.le_of_ble_eq_true rfl) (fun G hl hX hv hs ho => by subst hl; subst hX; exact a_sub [0, 1, 2, 3, 4, 5] rfl (T_X12_round_0 ho hv hs h))
theorem T_X12_tryOf_116 {G : gM} (ho : gOk G "WaxClothModel" cX12_tryOf 3 (some .int) 9) {r0 : Int32} (hr0 : gv0 G = some (.int r0)) {σ : gS} (hs0 : gs0 G = σ) {g9 : Int32 → Int32 → Int32 → Int32 → Int32 → Option Int32} (hg9 : ∀ (x0 : Int32) (x1 : Int32) (x2 : Int32) (x3 : Int32) (x4 : Int32), g9 x0 x1 x2 x3 x4 = some r0 → gAt G 9 [(0, .int x0), (1, .int x1), (2, .int x2), (3, .int x3), (4, .int x4)] [] σ) {x0 : Int32} {x1 : Int32} {x3 : Int32} {x4 : Int32} {x5 : Int32} {y0 : Int32} (h : F_X12_tryOf_116 g9 x0 x1 x3 x4 x5 y0 = some r0) : gAt G 116 [(0, .int x0), (1, .int x1), (3, .int x3), (4, .int x4), (5, .int x5)] [.int y0] σ := by
  unfold F_X12_tryOf_116 at h
  refine a_istore_n (L' := [(2, .int y0), (0, .int x0), (1, .int x1), (3, .int x3), (4, .int x4), (5, .int x5)]) ho dX12_tryOf_116 rfl rfl (by decide) rfl ?_
  refine a_iload_n ho dX12_tryOf_117 rfl rfl 3 rfl ?_
  refine a_iload ho dX12_tryOf_118 rfl 5 rfl ?_
  refine a_callSi ho vy_X12_less ml_X12_126 (C_X12_less x3 x5) rfl rfl (by decide) (Nat.le_of_ble_eq_true rfl) dX12_tryOf_120 rfl ?_
  obtain ⟨x123, hb123, h⟩ := bd_el h
  refine a_nmI hb123 ?_
  refine a_istore_n (L' := [(3, .int x123), (2, .int y0), (0, .int x0), (1, .int x1), (4, .int x4), (5, .int x5)]) ho dX12_tryOf_123 rfl rfl (by decide) rfl ?_
  obtain ⟨x124, hb124, h⟩ := bd_el h
  refine a_iinc (L' := [(4, .int x124), (3, .int x123), (2, .int y0), (0, .int x0), (1, .int x1), (5, .int x5)]) ho dX12_tryOf_124 rfl 4 rfl hb124 (by decide) rfl ?_
  refine a_goto (tgt := 9) ho dX12_tryOf_127 rfl ?_
  exact a_sub [3, 4, 2, 1, 0] rfl (hg9 _ _ _ _ _ h)
theorem T_X12_tryOf_96 {G : gM} (ho : gOk G "WaxClothModel" cX12_tryOf 3 (some .int) 9) {r0 : Int32} (hr0 : gv0 G = some (.int r0)) {σ : gS} (hs0 : gs0 G = σ) {g9 : Int32 → Int32 → Int32 → Int32 → Int32 → Option Int32} (hg9 : ∀ (x0 : Int32) (x1 : Int32) (x2 : Int32) (x3 : Int32) (x4 : Int32), g9 x0 x1 x2 x3 x4 = some r0 → gAt G 9 [(0, .int x0), (1, .int x1), (2, .int x2), (3, .int x3), (4, .int x4)] [] σ) {g25 : Int32 → Int32 → Int32 → Int32 → Int32 → Int32 → Int32 → Option Int32} (hg25 : ∀ (x0 : Int32) (x1 : Int32) (x2 : Int32) (x3 : Int32) (x4 : Int32) (x5 : Int32) (x6 : Int32), g25 x0 x1 x2 x3 x4 x5 x6 = some r0 → gAt G 25 [(0, .int x0), (1, .int x1), (2, .int x2), (3, .int x3), (4, .int x4), (5, .int x5), (6, .int x6)] [] σ) {x0 : Int32} {x1 : Int32} {x2 : Int32} {x3 : Int32} {x4 : Int32} {x6 : Int32} {y0 : Int32} (h : F_X12_tryOf_96 g9 g25 x0 x1 x2 x3 x4 x6 y0 = some r0) : gAt G 96 [(0, .int x0), (1, .int x1), (2, .int x2), (3, .int x3), (4, .int x4), (6, .int x6)] [.int y0] σ := by
  unfold F_X12_tryOf_96 at h
  refine a_istore (L' := [(5, .int y0), (0, .int x0), (1, .int x1), (2, .int x2), (3, .int x3), (4, .int x4), (6, .int x6)]) ho dX12_tryOf_96 rfl (by decide) rfl ?_
  obtain ⟨x98, hb98, h⟩ := bd_el h
  refine a_iinc (L' := [(6, .int x98), (5, .int y0), (0, .int x0), (1, .int x1), (2, .int x2), (3, .int x3), (4, .int x4)]) ho dX12_tryOf_98 rfl 6 rfl hb98 (by decide) rfl ?_
  refine a_goto (tgt := 25) ho dX12_tryOf_101 rfl ?_
  exact a_sub [2, 3, 4, 5, 6, 1, 0] rfl (hg25 _ _ _ _ _ _ _ h)
theorem T_X12_tryOf_73 {G : gM} (ho : gOk G "WaxClothModel" cX12_tryOf 3 (some .int) 9) {r0 : Int32} (hr0 : gv0 G = some (.int r0)) {σ : gS} (hs0 : gs0 G = σ) {g9 : Int32 → Int32 → Int32 → Int32 → Int32 → Option Int32} (hg9 : ∀ (x0 : Int32) (x1 : Int32) (x2 : Int32) (x3 : Int32) (x4 : Int32), g9 x0 x1 x2 x3 x4 = some r0 → gAt G 9 [(0, .int x0), (1, .int x1), (2, .int x2), (3, .int x3), (4, .int x4)] [] σ) {g25 : Int32 → Int32 → Int32 → Int32 → Int32 → Int32 → Int32 → Option Int32} (hg25 : ∀ (x0 : Int32) (x1 : Int32) (x2 : Int32) (x3 : Int32) (x4 : Int32) (x5 : Int32) (x6 : Int32), g25 x0 x1 x2 x3 x4 x5 x6 = some r0 → gAt G 25 [(0, .int x0), (1, .int x1), (2, .int x2), (3, .int x3), (4, .int x4), (5, .int x5), (6, .int x6)] [] σ) {g37 : Int32 → Int32 → Int32 → Int32 → Int32 → Int32 → Int32 → Int32 → Int32 → Option Int32} (hg37 : ∀ (x0 : Int32) (x1 : Int32) (x2 : Int32) (x3 : Int32) (x4 : Int32) (x5 : Int32) (x6 : Int32) (x7 : Int32) (x8 : Int32), g37 x0 x1 x2 x3 x4 x5 x6 x7 x8 = some r0 → gAt G 37 [(0, .int x0), (1, .int x1), (2, .int x2), (3, .int x3), (4, .int x4), (5, .int x5), (6, .int x6), (7, .int x7), (8, .int x8)] [] σ) {x0 : Int32} {x1 : Int32} {x2 : Int32} {x3 : Int32} {x4 : Int32} {x5 : Int32} {x6 : Int32} {x8 : Int32} {y0 : Int32} {y1 : Int32} (h : F_X12_tryOf_73 g9 g25 g37 x0 x1 x2 x3 x4 x5 x6 x8 y0 y1 = some r0) : gAt G 73 [(0, .int x0), (1, .int x1), (2, .int x2), (3, .int x3), (4, .int x4), (5, .int x5), (6, .int x6), (8, .int x8)] [.int y0, .int y1] σ := by
  unfold F_X12_tryOf_73 at h
  refine a_iadd ho dX12_tryOf_73 rfl ?_
  obtain ⟨x74, hb74, h⟩ := bd_el h
  refine a_nmI hb74 ?_
  refine a_istore (L' := [(7, .int x74), (0, .int x0), (1, .int x1), (2, .int x2), (3, .int x3), (4, .int x4), (5, .int x5), (6, .int x6), (8, .int x8)]) ho dX12_tryOf_74 rfl (by decide) rfl ?_
  obtain ⟨x76, hb76, h⟩ := bd_el h
  refine a_iinc (L' := [(8, .int x76), (7, .int x74), (0, .int x0), (1, .int x1), (2, .int x2), (3, .int x3), (4, .int x4), (5, .int x5), (6, .int x6)]) ho dX12_tryOf_76 rfl 8 rfl hb76 (by decide) rfl ?_
  refine a_goto (tgt := 37) ho dX12_tryOf_79 rfl ?_
  exact a_sub [2, 3, 4, 5, 6, 7, 8, 1, 0] rfl (hg37 _ _ _ _ _ _ _ _ _ h)
theorem T_X12_tryOf_72 {G : gM} (ho : gOk G "WaxClothModel" cX12_tryOf 3 (some .int) 9) {r0 : Int32} (hr0 : gv0 G = some (.int r0)) {σ : gS} (hs0 : gs0 G = σ) {g9 : Int32 → Int32 → Int32 → Int32 → Int32 → Option Int32} (hg9 : ∀ (x0 : Int32) (x1 : Int32) (x2 : Int32) (x3 : Int32) (x4 : Int32), g9 x0 x1 x2 x3 x4 = some r0 → gAt G 9 [(0, .int x0), (1, .int x1), (2, .int x2), (3, .int x3), (4, .int x4)] [] σ) {g25 : Int32 → Int32 → Int32 → Int32 → Int32 → Int32 → Int32 → Option Int32} (hg25 : ∀ (x0 : Int32) (x1 : Int32) (x2 : Int32) (x3 : Int32) (x4 : Int32) (x5 : Int32) (x6 : Int32), g25 x0 x1 x2 x3 x4 x5 x6 = some r0 → gAt G 25 [(0, .int x0), (1, .int x1), (2, .int x2), (3, .int x3), (4, .int x4), (5, .int x5), (6, .int x6)] [] σ) {g37 : Int32 → Int32 → Int32 → Int32 → Int32 → Int32 → Int32 → Int32 → Int32 → Option Int32} (hg37 : ∀ (x0 : Int32) (x1 : Int32) (x2 : Int32) (x3 : Int32) (x4 : Int32) (x5 : Int32) (x6 : Int32) (x7 : Int32) (x8 : Int32), g37 x0 x1 x2 x3 x4 x5 x6 x7 x8 = some r0 → gAt G 37 [(0, .int x0), (1, .int x1), (2, .int x2), (3, .int x3), (4, .int x4), (5, .int x5), (6, .int x6), (7, .int x7), (8, .int x8)] [] σ) {x0 : Int32} {x1 : Int32} {x2 : Int32} {x3 : Int32} {x4 : Int32} {x5 : Int32} {x6 : Int32} {x8 : Int32} {y0 : Int32} (h : F_X12_tryOf_72 g9 g25 g37 x0 x1 x2 x3 x4 x5 x6 x8 y0 = some r0) : gAt G 72 [(0, .int x0), (1, .int x1), (2, .int x2), (3, .int x3), (4, .int x4), (5, .int x5), (6, .int x6), (8, .int x8)] [.int y0] σ := by
  unfold F_X12_tryOf_72 at h
  refine a_iconst (v := 0) ho dX12_tryOf_72 rfl (by decide) ?_
  exact a_sub [0, 1, 2, 3, 4, 5, 6, 7] rfl (T_X12_tryOf_73 ho hr0 hs0 hg9 hg25 hg37 h)
theorem T_X12_tryOf_37 {G : gM} (ho : gOk G "WaxClothModel" cX12_tryOf 3 (some .int) 9) {r0 : Int32} (hr0 : gv0 G = some (.int r0)) {σ : gS} (hs0 : gs0 G = σ) {g9 : Int32 → Int32 → Int32 → Int32 → Int32 → Option Int32} (hg9 : ∀ (x0 : Int32) (x1 : Int32) (x2 : Int32) (x3 : Int32) (x4 : Int32), g9 x0 x1 x2 x3 x4 = some r0 → gAt G 9 [(0, .int x0), (1, .int x1), (2, .int x2), (3, .int x3), (4, .int x4)] [] σ) {g25 : Int32 → Int32 → Int32 → Int32 → Int32 → Int32 → Int32 → Option Int32} (hg25 : ∀ (x0 : Int32) (x1 : Int32) (x2 : Int32) (x3 : Int32) (x4 : Int32) (x5 : Int32) (x6 : Int32), g25 x0 x1 x2 x3 x4 x5 x6 = some r0 → gAt G 25 [(0, .int x0), (1, .int x1), (2, .int x2), (3, .int x3), (4, .int x4), (5, .int x5), (6, .int x6)] [] σ) : ∀ (n : Nat) (x0 : Int32) (x1 : Int32) (x2 : Int32) (x3 : Int32) (x4 : Int32) (x5 : Int32) (x6 : Int32) (x7 : Int32) (x8 : Int32), F_X12_tryOf_37 g9 g25 n x0 x1 x2 x3 x4 x5 x6 x7 x8 = some r0 → gAt G 37 [(0, .int x0), (1, .int x1), (2, .int x2), (3, .int x3), (4, .int x4), (5, .int x5), (6, .int x6), (7, .int x7), (8, .int x8)] [] σ := by
  intro n
  induction n with
  | zero => intro x0 x1 x2 x3 x4 x5 x6 x7 x8 h; cases h
  | succ n ih =>
    intro x0 x1 x2 x3 x4 x5 x6 x7 x8 h
    unfold F_X12_tryOf_37 at h
    refine a_iload ho dX12_tryOf_37 rfl 8 rfl ?_
    refine a_bipush (v := 6) ho dX12_tryOf_39 rfl (by decide) ?_
    refine a_icmp_ge (tgt := 82) ho dX12_tryOf_41 rfl rfl (fun hc41 => ?_) (fun hc41 => ?_)
    · replace h := if_t hc41 h
      refine a_iload ho dX12_tryOf_82 rfl 7 rfl ?_
      refine a_iload ho dX12_tryOf_84 rfl 5 rfl ?_
      refine a_icmp_le (tgt := 94) ho dX12_tryOf_86 rfl rfl (fun hc86 => ?_) (fun hc86 => ?_)
      · replace h := if_t hc86 h
        refine a_iload ho dX12_tryOf_94 rfl 5 rfl ?_
        exact a_sub [0, 1, 2, 3, 4, 6] rfl (T_X12_tryOf_96 ho hr0 hs0 hg9 hg25 h)
      · replace h := if_f hc86 h
        refine a_iload ho dX12_tryOf_89 rfl 7 rfl ?_
        refine a_goto (tgt := 96) ho dX12_tryOf_91 rfl ?_
        exact a_sub [0, 1, 2, 3, 4, 6] rfl (T_X12_tryOf_96 ho hr0 hs0 hg9 hg25 h)
    · replace h := if_f hc41 h
      refine a_iload ho dX12_tryOf_44 rfl 7 rfl ?_
      refine a_iload_n ho dX12_tryOf_46 rfl rfl 0 rfl ?_
      refine a_iload ho dX12_tryOf_47 rfl 8 rfl ?_
      refine a_callSi ho vy_X12_has ml_X12_151 (C_X12_has x0 x8) rfl rfl (by decide) (Nat.le_of_ble_eq_true rfl) dX12_tryOf_49 rfl ?_
      refine a_if_eq (tgt := 72) ho dX12_tryOf_52 rfl rfl (fun hc52 => ?_) (fun hc52 => ?_)
      · replace h := if_t hc52 h
        exact a_sub [0, 1, 2, 3, 4, 5, 6, 8] rfl (T_X12_tryOf_72 ho hr0 hs0 hg9 hg25 ih h)
      · replace h := if_f hc52 h
        refine a_iload ho dX12_tryOf_55 rfl 8 rfl ?_
        refine a_iload_n ho dX12_tryOf_57 rfl rfl 1 rfl ?_
        refine a_iload ho dX12_tryOf_58 rfl 4 rfl ?_
        obtain ⟨r60, hq60, h⟩ := ob_el h
        refine a_callSi ho vy_X12_takenBy ml_X12_130 (C_X12_takenBy hq60) rfl rfl (by decide) (Nat.le_of_ble_eq_true rfl) dX12_tryOf_60 rfl ?_
        refine a_iload ho dX12_tryOf_63 rfl 6 rfl ?_
        refine a_icmp_ne (tgt := 72) ho dX12_tryOf_65 rfl rfl (fun hc65 => ?_) (fun hc65 => ?_)
        · replace h := if_f hc65 h
          exact a_sub [0, 1, 2, 3, 4, 5, 6, 8] rfl (T_X12_tryOf_72 ho hr0 hs0 hg9 hg25 ih h)
        · replace h := if_t hc65 h
          refine a_iconst (v := 1) ho dX12_tryOf_68 rfl (by decide) ?_
          refine a_goto (tgt := 73) ho dX12_tryOf_69 rfl ?_
          exact a_sub [0, 1, 2, 3, 4, 5, 6, 8] rfl (T_X12_tryOf_73 ho hr0 hs0 hg9 hg25 ih h)
theorem T_X12_tryOf_25 {G : gM} (ho : gOk G "WaxClothModel" cX12_tryOf 3 (some .int) 9) {r0 : Int32} (hr0 : gv0 G = some (.int r0)) {σ : gS} (hs0 : gs0 G = σ) {g9 : Int32 → Int32 → Int32 → Int32 → Int32 → Option Int32} (hg9 : ∀ (x0 : Int32) (x1 : Int32) (x2 : Int32) (x3 : Int32) (x4 : Int32), g9 x0 x1 x2 x3 x4 = some r0 → gAt G 9 [(0, .int x0), (1, .int x1), (2, .int x2), (3, .int x3), (4, .int x4)] [] σ) : ∀ (n : Nat) (x0 : Int32) (x1 : Int32) (x2 : Int32) (x3 : Int32) (x4 : Int32) (x5 : Int32) (x6 : Int32), F_X12_tryOf_25 g9 n x0 x1 x2 x3 x4 x5 x6 = some r0 → gAt G 25 [(0, .int x0), (1, .int x1), (2, .int x2), (3, .int x3), (4, .int x4), (5, .int x5), (6, .int x6)] [] σ := by
  intro n
  induction n with
  | zero => intro x0 x1 x2 x3 x4 x5 x6 h; cases h
  | succ n ih =>
    intro x0 x1 x2 x3 x4 x5 x6 h
    unfold F_X12_tryOf_25 at h
    refine a_iload ho dX12_tryOf_25 rfl 6 rfl ?_
    refine a_iconst (v := 5) ho dX12_tryOf_27 rfl (by decide) ?_
    refine a_icmp_ge (tgt := 104) ho dX12_tryOf_28 rfl rfl (fun hc28 => ?_) (fun hc28 => ?_)
    · replace h := if_t hc28 h
      refine a_iload ho dX12_tryOf_104 rfl 5 rfl ?_
      refine a_iload_n ho dX12_tryOf_106 rfl rfl 3 rfl ?_
      refine a_icmp_ge (tgt := 115) ho dX12_tryOf_107 rfl rfl (fun hc107 => ?_) (fun hc107 => ?_)
      · replace h := if_t hc107 h
        refine a_iload_n ho dX12_tryOf_115 rfl rfl 2 rfl ?_
        exact a_sub [0, 1, 3, 4, 5] rfl (T_X12_tryOf_116 ho hr0 hs0 hg9 h)
      · replace h := if_f hc107 h
        refine a_iload ho dX12_tryOf_110 rfl 4 rfl ?_
        refine a_goto (tgt := 116) ho dX12_tryOf_112 rfl ?_
        exact a_sub [0, 1, 3, 4, 5] rfl (T_X12_tryOf_116 ho hr0 hs0 hg9 h)
    · replace h := if_f hc28 h
      refine a_iconst (v := 0) ho dX12_tryOf_31 rfl (by decide) ?_
      refine a_istore (L' := [(7, .int 0), (0, .int x0), (1, .int x1), (2, .int x2), (3, .int x3), (4, .int x4), (5, .int x5), (6, .int x6)]) ho dX12_tryOf_32 rfl (by decide) rfl ?_
      refine a_iconst (v := 1) ho dX12_tryOf_34 rfl (by decide) ?_
      refine a_istore (L' := [(8, .int 1), (7, .int 0), (0, .int x0), (1, .int x1), (2, .int x2), (3, .int x3), (4, .int x4), (5, .int x5), (6, .int x6)]) ho dX12_tryOf_35 rfl (by decide) rfl ?_
      exact a_sub [2, 3, 4, 5, 6, 7, 8, 1, 0] rfl (T_X12_tryOf_37 ho hr0 hs0 hg9 ih _ _ _ _ _ _ _ _ _ _ h)
theorem T_X12_tryOf_9 {G : gM} (ho : gOk G "WaxClothModel" cX12_tryOf 3 (some .int) 9) {r0 : Int32} (hr0 : gv0 G = some (.int r0)) {σ : gS} (hs0 : gs0 G = σ) : ∀ (n : Nat) (x0 : Int32) (x1 : Int32) (x2 : Int32) (x3 : Int32) (x4 : Int32), F_X12_tryOf_9 n x0 x1 x2 x3 x4 = some r0 → gAt G 9 [(0, .int x0), (1, .int x1), (2, .int x2), (3, .int x3), (4, .int x4)] [] σ := by
  intro n
  induction n with
  | zero => intro x0 x1 x2 x3 x4 h; cases h
  | succ n ih =>
    intro x0 x1 x2 x3 x4 h
    unfold F_X12_tryOf_9 at h
    refine a_iload ho dX12_tryOf_9 rfl 4 rfl ?_
    refine a_iconst (v := 4) ho dX12_tryOf_11 rfl (by decide) ?_
    refine a_icmp_ge (tgt := 130) ho dX12_tryOf_12 rfl rfl (fun hc12 => ?_) (fun hc12 => ?_)
    · replace h := if_t hc12 h
      refine a_iload_n ho dX12_tryOf_130 rfl rfl 2 rfl ?_
      exact a_iret ho dX12_tryOf_131 (rI hr0 (ro_el h)) hs0
    · replace h := if_f hc12 h
      refine a_iload_n ho dX12_tryOf_15 rfl rfl 0 rfl ?_
      refine a_if_eq (tgt := 130) ho dX12_tryOf_16 rfl rfl (fun hc16 => ?_) (fun hc16 => ?_)
      · replace h := if_t hc16 h
        refine a_iload_n ho dX12_tryOf_130 rfl rfl 2 rfl ?_
        exact a_iret ho dX12_tryOf_131 (rI hr0 (ro_el h)) hs0
      · replace h := if_f hc16 h
        refine a_iconst (v := 0) ho dX12_tryOf_19 rfl (by decide) ?_
        refine a_istore (L' := [(5, .int 0), (0, .int x0), (1, .int x1), (2, .int x2), (3, .int x3), (4, .int x4)]) ho dX12_tryOf_20 rfl (by decide) rfl ?_
        refine a_iconst (v := 0) ho dX12_tryOf_22 rfl (by decide) ?_
        refine a_istore (L' := [(6, .int 0), (5, .int 0), (0, .int x0), (1, .int x1), (2, .int x2), (3, .int x3), (4, .int x4)]) ho dX12_tryOf_23 rfl (by decide) rfl ?_
        exact a_sub [2, 3, 4, 5, 6, 1, 0] rfl (T_X12_tryOf_25 ho hr0 hs0 ih _ _ _ _ _ _ _ _ h)
theorem T_X12_tryOf_0 {G : gM} (ho : gOk G "WaxClothModel" cX12_tryOf 3 (some .int) 9) {r0 : Int32} (hr0 : gv0 G = some (.int r0)) {σ : gS} (hs0 : gs0 G = σ) {x0 : Int32} {x1 : Int32} (h : F_X12_tryOf_0 x0 x1 = some r0) : gAt G 0 [(0, .int x0), (1, .int x1)] [] σ := by
  unfold F_X12_tryOf_0 at h
  refine a_bipush (v := (-4)) ho dX12_tryOf_0 rfl (by decide) ?_
  refine a_istore_n (L' := [(2, .int (-4)), (0, .int x0), (1, .int x1)]) ho dX12_tryOf_2 rfl rfl (by decide) rfl ?_
  refine a_bipush (v := 6) ho dX12_tryOf_3 rfl (by decide) ?_
  refine a_istore_n (L' := [(3, .int 6), (2, .int (-4)), (0, .int x0), (1, .int x1)]) ho dX12_tryOf_5 rfl rfl (by decide) rfl ?_
  refine a_iconst (v := 1) ho dX12_tryOf_6 rfl (by decide) ?_
  refine a_istore (L' := [(4, .int 1), (3, .int 6), (2, .int (-4)), (0, .int x0), (1, .int x1)]) ho dX12_tryOf_7 rfl (by decide) rfl ?_
  exact a_sub [3, 4, 2, 1, 0] rfl (T_X12_tryOf_9 ho hr0 hs0 _ _ _ _ _ _ h)
theorem C_X12_tryOf {l : Launch} {X : gX} {σ : gS} {r0 : Int32} {a0 : Int32} {a1 : Int32} (h : F_X12_tryOf_0 a0 a1 = some r0) : gCt l X yX12_tryOf (.code yX12_tryOf cX12_tryOf 9 (some .int)) 3 [.int a0, .int a1] σ (some (.int r0)) σ :=
  gCt_of cX12_tryOf (by decide) (Nat.le_of_ble_eq_true rfl) (fun G hl hX hv hs ho => by subst hl; subst hX; exact a_sub [0, 1] rfl (T_X12_tryOf_0 ho hv hs h))
theorem T_X12_kinds_185 {G : gM} (ho : gOk G "WaxClothModel" cX12_kinds 4 (some .int) 11) {r0 : Int32} (hr0 : gv0 G = some (.int r0)) {σ : gS} (hs0 : gs0 G = σ) {g66 : Int32 → Int32 → Int32 → Int32 → Int32 → Int32 → gS → Option Int32} (hg66 : ∀ (x1 : Int32) (x3 : Int32) (x4 : Int32) (x5 : Int32) (x7 : Int32) (x8 : Int32), g66 x1 x3 x4 x5 x7 x8 σ = some r0 → gAt G 66 [(0, .ref (gad G 82)), (1, .int x1), (3, .int x3), (4, .int x4), (5, .int x5), (7, .int x7), (8, .int x8)] [] σ) {g128 : Int32 → Int32 → Int32 → Int32 → Int32 → Int32 → Int32 → Int32 → gS → Option Int32} (hg128 : ∀ (x1 : Int32) (x3 : Int32) (x4 : Int32) (x5 : Int32) (x7 : Int32) (x8 : Int32) (x9 : Int32) (x10 : Int32), g128 x1 x3 x4 x5 x7 x8 x9 x10 σ = some r0 → gAt G 128 [(0, .ref (gad G 82)), (1, .int x1), (3, .int x3), (4, .int x4), (5, .int x5), (7, .int x7), (8, .int x8), (9, .int x9), (10, .int x10)] [] σ) {x1 : Int32} {x3 : Int32} {x4 : Int32} {x5 : Int32} {x8 : Int32} {x9 : Int32} {x10 : Int32} {y0 : Int32} {y1 : Int32} (h : F_X12_kinds_185 g66 g128 x1 x3 x4 x5 x8 x9 x10 y0 y1 σ = some r0) : gAt G 185 [(0, .ref (gad G 82)), (1, .int x1), (3, .int x3), (4, .int x4), (5, .int x5), (8, .int x8), (9, .int x9), (10, .int x10)] [.int y0, .int y1] σ := by
  unfold F_X12_kinds_185 at h
  refine a_iand ho dX12_kinds_185 rfl ?_
  obtain ⟨x186, hb186, h⟩ := bd_el h
  refine a_nmI hb186 ?_
  refine a_istore (L' := [(7, .int x186), (0, .ref (gad G 82)), (1, .int x1), (3, .int x3), (4, .int x4), (5, .int x5), (8, .int x8), (9, .int x9), (10, .int x10)]) ho dX12_kinds_186 rfl (by decide) rfl ?_
  obtain ⟨x188, hb188, h⟩ := bd_el h
  refine a_iinc (L' := [(10, .int x188), (7, .int x186), (0, .ref (gad G 82)), (1, .int x1), (3, .int x3), (4, .int x4), (5, .int x5), (8, .int x8), (9, .int x9)]) ho dX12_kinds_188 rfl 8 rfl hb188 (by decide) rfl ?_
  refine a_goto (tgt := 128) ho dX12_kinds_191 rfl ?_
  exact a_sub [2, 3, 4, 5, 6, 1, 7, 8, 0] rfl (hg128 _ _ _ _ _ _ _ _ h)
theorem T_X12_kinds_128 {G : gM} (ho : gOk G "WaxClothModel" cX12_kinds 4 (some .int) 11) {r0 : Int32} (hr0 : gv0 G = some (.int r0)) {σ : gS} (hs0 : gs0 G = σ) {g66 : Int32 → Int32 → Int32 → Int32 → Int32 → Int32 → gS → Option Int32} (hg66 : ∀ (x1 : Int32) (x3 : Int32) (x4 : Int32) (x5 : Int32) (x7 : Int32) (x8 : Int32), g66 x1 x3 x4 x5 x7 x8 σ = some r0 → gAt G 66 [(0, .ref (gad G 82)), (1, .int x1), (3, .int x3), (4, .int x4), (5, .int x5), (7, .int x7), (8, .int x8)] [] σ) : ∀ (n : Nat) (x1 : Int32) (x3 : Int32) (x4 : Int32) (x5 : Int32) (x7 : Int32) (x8 : Int32) (x9 : Int32) (x10 : Int32), F_X12_kinds_128 g66 n x1 x3 x4 x5 x7 x8 x9 x10 σ = some r0 → gAt G 128 [(0, .ref (gad G 82)), (1, .int x1), (3, .int x3), (4, .int x4), (5, .int x5), (7, .int x7), (8, .int x8), (9, .int x9), (10, .int x10)] [] σ := by
  intro n
  induction n with
  | zero => intro x1 x3 x4 x5 x7 x8 x9 x10 h; cases h
  | succ n ih =>
    intro x1 x3 x4 x5 x7 x8 x9 x10 h
    unfold F_X12_kinds_128 at h
    refine a_iload ho dX12_kinds_128 rfl 8 rfl ?_
    refine a_bipush (v := 6) ho dX12_kinds_130 rfl (by decide) ?_
    refine a_icmp_ge (tgt := 194) ho dX12_kinds_132 rfl rfl (fun hc132 => ?_) (fun hc132 => ?_)
    · replace h := if_t hc132 h
      obtain ⟨x194, hb194, h⟩ := bd_el h
      refine a_iinc (L' := [(8, .int x194), (0, .ref (gad G 82)), (1, .int x1), (3, .int x3), (4, .int x4), (5, .int x5), (7, .int x7), (9, .int x9), (10, .int x10)]) ho dX12_kinds_194 rfl 6 rfl hb194 (by decide) rfl ?_
      refine a_goto (tgt := 66) ho dX12_kinds_197 rfl ?_
      exact a_sub [1, 2, 3, 4, 5, 6, 0] rfl (hg66 _ _ _ _ _ _ h)
    · replace h := if_f hc132 h
      refine a_iload ho dX12_kinds_135 rfl 5 rfl ?_
      refine a_iload ho dX12_kinds_137 rfl 8 rfl ?_
      refine a_aload_n ho dX12_kinds_139 rfl rfl 0 rfl ?_
      refine a_getR ho fl_X12_44 o_82 fr_10_14 dX12_kinds_140 rfl ?_
      refine a_iload ho dX12_kinds_143 rfl 7 rfl ?_
      obtain ⟨hk145, h⟩ := ck_el h
      refine a_lald ho j_94 hk145 dX12_kinds_145 rfl ?_
      refine a_l2i ho dX12_kinds_146 rfl ?_
      refine a_aload_n ho dX12_kinds_147 rfl rfl 0 rfl ?_
      refine a_getR ho fl_X12_44 o_82 fr_10_14 dX12_kinds_148 rfl ?_
      refine a_iload ho dX12_kinds_151 rfl 7 rfl ?_
      refine a_iconst (v := 1) ho dX12_kinds_153 rfl (by decide) ?_
      refine a_iadd ho dX12_kinds_154 rfl ?_
      obtain ⟨hk155, h⟩ := ck_el h
      refine a_lald ho j_94 hk155 dX12_kinds_155 rfl ?_
      refine a_l2i ho dX12_kinds_156 rfl ?_
      obtain ⟨r157, hq157, h⟩ := ob_el h
      refine a_callSi ho vy_X12_takenBy ml_X12_130 (C_X12_takenBy hq157) rfl rfl (by decide) (Nat.le_of_ble_eq_true rfl) dX12_kinds_157 rfl ?_
      refine a_i2l ho dX12_kinds_160 rfl ?_
      refine a_aload_n ho dX12_kinds_161 rfl rfl 0 rfl ?_
      refine a_getR ho fl_X12_44 o_82 fr_10_14 dX12_kinds_162 rfl ?_
      refine a_iload ho dX12_kinds_165 rfl 7 rfl ?_
      refine a_iconst (v := 2) ho dX12_kinds_167 rfl (by decide) ?_
      refine a_iadd ho dX12_kinds_168 rfl ?_
      obtain ⟨hk169, h⟩ := ck_el h
      refine a_lald ho j_94 hk169 dX12_kinds_169 rfl ?_
      refine a_lcmp ho dX12_kinds_170 rfl ?_
      refine a_if_ne (tgt := 179) ho dX12_kinds_171 rfl rfl (fun hc171 => ?_) (fun hc171 => ?_)
      · replace h := if_f hc171 h
        refine a_iconst (v := 1) ho dX12_kinds_179 rfl (by decide) ?_
        refine a_iload ho dX12_kinds_180 rfl 8 rfl ?_
        refine a_ishl ho dX12_kinds_182 rfl ?_
        refine a_iconst (v := (-1)) ho dX12_kinds_183 rfl (by decide) ?_
        refine a_ixor ho dX12_kinds_184 rfl ?_
        exact a_sub [0, 1, 2, 3, 4, 6, 7, 8] rfl (T_X12_kinds_185 ho hr0 hs0 hg66 ih h)
      · replace h := if_t hc171 h
        refine a_iload ho dX12_kinds_174 rfl 5 rfl ?_
        refine a_goto (tgt := 185) ho dX12_kinds_176 rfl ?_
        exact a_sub [0, 1, 2, 3, 4, 6, 7, 8] rfl (T_X12_kinds_185 ho hr0 hs0 hg66 ih h)
theorem T_X12_kinds_66 {G : gM} (ho : gOk G "WaxClothModel" cX12_kinds 4 (some .int) 11) {r0 : Int32} (hr0 : gv0 G = some (.int r0)) {σ : gS} (hs0 : gs0 G = σ) : ∀ (n : Nat) (x1 : Int32) (x3 : Int32) (x4 : Int32) (x5 : Int32) (x7 : Int32) (x8 : Int32), F_X12_kinds_66 n x1 x3 x4 x5 x7 x8 σ = some r0 → gAt G 66 [(0, .ref (gad G 82)), (1, .int x1), (3, .int x3), (4, .int x4), (5, .int x5), (7, .int x7), (8, .int x8)] [] σ := by
  intro n
  induction n with
  | zero => intro x1 x3 x4 x5 x7 x8 h; cases h
  | succ n ih =>
    intro x1 x3 x4 x5 x7 x8 h
    unfold F_X12_kinds_66 at h
    refine a_iload ho dX12_kinds_66 rfl 6 rfl ?_
    refine a_iload ho dX12_kinds_68 rfl 3 rfl ?_
    refine a_icmp_ge (tgt := 200) ho dX12_kinds_70 rfl rfl (fun hc70 => ?_) (fun hc70 => ?_)
    · replace h := if_t hc70 h
      refine a_iload ho dX12_kinds_200 rfl 4 rfl ?_
      refine a_if_ge (tgt := 210) ho dX12_kinds_202 rfl rfl (fun hc202 => ?_) (fun hc202 => ?_)
      · replace h := if_t hc202 h
        refine a_iload ho dX12_kinds_210 rfl 5 rfl ?_
        refine a_iload ho dX12_kinds_212 rfl 4 rfl ?_
        obtain ⟨r214, hq214, h⟩ := ob_el h
        refine a_callSi ho vy_X12_tryOf ml_X12_251 (C_X12_tryOf hq214) rfl rfl (by decide) (Nat.le_of_ble_eq_true rfl) dX12_kinds_214 rfl ?_
        exact a_iret ho dX12_kinds_217 (rI hr0 (ro_el h)) hs0
      · replace h := if_f hc202 h
        refine a_iload ho dX12_kinds_205 rfl 5 rfl ?_
        refine a_goto (tgt := 217) ho dX12_kinds_207 rfl ?_
        exact a_iret ho dX12_kinds_217 (rI hr0 (ro_el h)) hs0
    · replace h := if_f hc70 h
      refine a_bipush (v := 24) ho dX12_kinds_73 rfl (by decide) ?_
      refine a_iload_n ho dX12_kinds_75 rfl rfl 1 rfl ?_
      refine a_imul ho dX12_kinds_76 rfl ?_
      refine a_iload_n ho dX12_kinds_77 rfl rfl 2 rfl ?_
      refine a_iadd ho dX12_kinds_78 rfl ?_
      refine a_iconst (v := 3) ho dX12_kinds_79 rfl (by decide) ?_
      refine a_iload ho dX12_kinds_80 rfl 6 rfl ?_
      refine a_imul ho dX12_kinds_82 rfl ?_
      refine a_iadd ho dX12_kinds_83 rfl ?_
      obtain ⟨x84, hb84, h⟩ := bd_el h
      refine a_nmI hb84 ?_
      refine a_istore (L' := [(9, .int x84), (0, .ref (gad G 82)), (1, .int x1), (3, .int x3), (4, .int x4), (5, .int x5), (7, .int x7), (8, .int x8)]) ho dX12_kinds_84 rfl (by decide) rfl ?_
      refine a_aload_n ho dX12_kinds_86 rfl rfl 1 rfl ?_
      refine a_getR ho fl_X12_44 o_82 fr_10_14 dX12_kinds_87 rfl ?_
      refine a_iload ho dX12_kinds_90 rfl 0 rfl ?_
      obtain ⟨hk92, h⟩ := ck_el h
      refine a_lald ho j_94 hk92 dX12_kinds_92 rfl ?_
      refine a_lconst (v := 0) ho dX12_kinds_93 rfl (by decide) ?_
      refine a_ldc2 ho dX12_kinds_94 rfl kk_X12_209 ?_
      refine a_callSi ho vy_X12_in ml_X12_59 (C_X12_in (σ.2 94 (Int32.toNatClampNeg x84)) 0 9) rfl rfl (by decide) (Nat.le_of_ble_eq_true rfl) dX12_kinds_97 rfl ?_
      refine a_if_eq (tgt := 122) ho dX12_kinds_100 rfl rfl (fun hc100 => ?_) (fun hc100 => ?_)
      · replace h := if_t hc100 h
        refine a_bipush (v := (-2)) ho dX12_kinds_122 rfl (by decide) ?_
        exact a_iret ho dX12_kinds_124 (rI hr0 (ro_el h)) hs0
      · replace h := if_f hc100 h
        refine a_aload_n ho dX12_kinds_103 rfl rfl 1 rfl ?_
        refine a_getR ho fl_X12_44 o_82 fr_10_14 dX12_kinds_104 rfl ?_
        refine a_iload ho dX12_kinds_107 rfl 0 rfl ?_
        refine a_iconst (v := 1) ho dX12_kinds_109 rfl (by decide) ?_
        refine a_iadd ho dX12_kinds_110 rfl ?_
        obtain ⟨hk111, h⟩ := ck_el h
        refine a_lald ho j_94 hk111 dX12_kinds_111 rfl ?_
        refine a_lconst (v := 0) ho dX12_kinds_112 rfl (by decide) ?_
        refine a_ldc2 ho dX12_kinds_113 rfl kk_X12_170 ?_
        refine a_callSi ho vy_X12_in ml_X12_59 (C_X12_in (σ.2 94 (Int32.toNatClampNeg (x84 + 1))) 0 3) rfl rfl (by decide) (Nat.le_of_ble_eq_true rfl) dX12_kinds_116 rfl ?_
        refine a_if_ne (tgt := 125) ho dX12_kinds_119 rfl rfl (fun hc119 => ?_) (fun hc119 => ?_)
        · replace h := if_f hc119 h
          refine a_iconst (v := 1) ho dX12_kinds_125 rfl (by decide) ?_
          refine a_istore (L' := [(10, .int 1), (9, .int x84), (0, .ref (gad G 82)), (1, .int x1), (3, .int x3), (4, .int x4), (5, .int x5), (7, .int x7), (8, .int x8)]) ho dX12_kinds_126 rfl (by decide) rfl ?_
          exact a_sub [2, 3, 4, 5, 6, 7, 8, 1, 0] rfl (T_X12_kinds_128 ho hr0 hs0 ih _ _ _ _ _ _ _ _ _ h)
        · replace h := if_t hc119 h
          refine a_bipush (v := (-2)) ho dX12_kinds_122 rfl (by decide) ?_
          exact a_iret ho dX12_kinds_124 (rI hr0 (ro_el h)) hs0
theorem T_X12_kinds_0 {G : gM} (ho : gOk G "WaxClothModel" cX12_kinds 4 (some .int) 11) {r0 : Int32} (hr0 : gv0 G = some (.int r0)) {σ : gS} (hs0 : gs0 G = σ) {x1 : Int32} {x2 : Int32} {x3 : Int32} {x4 : Int32} {x5 : Int32} (h : F_X12_kinds_0 x1 x2 x3 x4 x5 σ = some r0) : gAt G 0 [(0, .ref (gad G 82)), (1, .int x1), (2, .int x2), (3, .int x3), (4, .int x4), (5, .int x5)] [] σ := by
  unfold F_X12_kinds_0 at h
  refine a_iload_n ho dX12_kinds_0 rfl rfl 1 rfl ?_
  refine a_iload_n ho dX12_kinds_1 rfl rfl 2 rfl ?_
  refine a_callSi ho vy_X12_isSheet ml_X12_225 (C_X12_isSheet x1 x2) rfl rfl (by decide) (Nat.le_of_ble_eq_true rfl) dX12_kinds_2 rfl ?_
  refine a_if_eq (tgt := 36) ho dX12_kinds_5 rfl rfl (fun hc5 => ?_) (fun hc5 => ?_)
  · replace h := if_t hc5 h
    refine a_iconst (v := (-1)) ho dX12_kinds_36 rfl (by decide) ?_
    exact a_iret ho dX12_kinds_37 (rI hr0 (ro_el h)) hs0
  · replace h := if_f hc5 h
    refine a_iload ho dX12_kinds_8 rfl 4 rfl ?_
    refine a_i2l ho dX12_kinds_10 rfl ?_
    refine a_lconst (v := 1) ho dX12_kinds_11 rfl (by decide) ?_
    refine a_ldc2 ho dX12_kinds_12 rfl kk_X12_186 ?_
    refine a_callSi ho vy_X12_in ml_X12_59 (C_X12_in (Int32.toInt64 x4) 1 7) rfl rfl (by decide) (Nat.le_of_ble_eq_true rfl) dX12_kinds_15 rfl ?_
    refine a_if_eq (tgt := 36) ho dX12_kinds_18 rfl rfl (fun hc18 => ?_) (fun hc18 => ?_)
    · replace h := if_t hc18 h
      refine a_iconst (v := (-1)) ho dX12_kinds_36 rfl (by decide) ?_
      exact a_iret ho dX12_kinds_37 (rI hr0 (ro_el h)) hs0
    · replace h := if_f hc18 h
      refine a_iload ho dX12_kinds_21 rfl 5 rfl ?_
      refine a_i2l ho dX12_kinds_23 rfl ?_
      refine a_ldc2 ho dX12_kinds_24 rfl kk_X12_249 ?_
      refine a_ldc2 ho dX12_kinds_27 rfl kk_X12_209 ?_
      refine a_callSi ho vy_X12_in ml_X12_59 (C_X12_in (Int32.toInt64 x5) (-1) 9) rfl rfl (by decide) (Nat.le_of_ble_eq_true rfl) dX12_kinds_30 rfl ?_
      refine a_if_ne (tgt := 38) ho dX12_kinds_33 rfl rfl (fun hc33 => ?_) (fun hc33 => ?_)
      · replace h := if_f hc33 h
        refine a_aload_n ho dX12_kinds_38 rfl rfl 0 rfl ?_
        refine a_iload_n ho dX12_kinds_39 rfl rfl 1 rfl ?_
        refine a_iload_n ho dX12_kinds_40 rfl rfl 2 rfl ?_
        refine a_iload_n ho dX12_kinds_41 rfl rfl 3 rfl ?_
        refine a_iconst (v := 3) ho dX12_kinds_42 rfl (by decide) ?_
        refine a_iload ho dX12_kinds_43 rfl 4 rfl ?_
        refine a_imul ho dX12_kinds_45 rfl ?_
        obtain ⟨r46, hq46, h⟩ := ob_el h
        refine a_callVi ho vy_X12_found ml_X12_228 o_82 (C_X12_found hq46) rfl rfl (by decide) (Nat.le_of_ble_eq_true rfl) dX12_kinds_46 rfl ?_
        refine a_istore (L' := [(6, .int r46), (0, .ref (gad G 82)), (1, .int x1), (2, .int x2), (3, .int x3), (4, .int x4), (5, .int x5)]) ho dX12_kinds_49 rfl (by decide) rfl ?_
        refine a_iload ho dX12_kinds_51 rfl 0 rfl ?_
        refine a_if_ge (tgt := 59) ho dX12_kinds_53 rfl rfl (fun hc53 => ?_) (fun hc53 => ?_)
        · replace h := if_t hc53 h
          refine a_bipush (v := 62) ho dX12_kinds_59 rfl (by decide) ?_
          refine a_istore (L' := [(7, .int 62), (6, .int r46), (0, .ref (gad G 82)), (1, .int x1), (2, .int x2), (3, .int x3), (4, .int x4), (5, .int x5)]) ho dX12_kinds_61 rfl (by decide) rfl ?_
          refine a_iconst (v := 0) ho dX12_kinds_63 rfl (by decide) ?_
          refine a_istore (L' := [(8, .int 0), (7, .int 62), (6, .int r46), (0, .ref (gad G 82)), (1, .int x1), (2, .int x2), (3, .int x3), (4, .int x4), (5, .int x5)]) ho dX12_kinds_64 rfl (by decide) rfl ?_
          exact a_sub [3, 4, 6, 7, 8, 1, 0] rfl (T_X12_kinds_66 ho hr0 hs0 _ _ _ _ _ _ _ h)
        · replace h := if_f hc53 h
          refine a_iload ho dX12_kinds_56 rfl 0 rfl ?_
          exact a_iret ho dX12_kinds_58 (rI hr0 (ro_el h)) hs0
      · replace h := if_t hc33 h
        refine a_iconst (v := (-1)) ho dX12_kinds_36 rfl (by decide) ?_
        exact a_iret ho dX12_kinds_37 (rI hr0 (ro_el h)) hs0
theorem C_X12_kinds {l : Launch} {X : gX} {σ : gS} {r0 : Int32} {a1 : Int32} {a2 : Int32} {a3 : Int32} {a4 : Int32} {a5 : Int32} (h : F_X12_kinds_0 a1 a2 a3 a4 a5 σ = some r0) : gCt l X yX12_kinds (.code yX12_kinds cX12_kinds 11 (some .int)) 4 [.ref (X.2.2.1 82), .int a1, .int a2, .int a3, .int a4, .int a5] σ (some (.int r0)) σ :=
  gCt_of cX12_kinds (by decide) (Nat.le_of_ble_eq_true rfl) (fun G hl hX hv hs ho => by subst hl; subst hX; exact a_sub [0, 1, 2, 3, 4, 5] rfl (T_X12_kinds_0 ho hv hs h))
