theorem T_X10_at_0 {G : gM} (ho : gOk G "WaxCloth$Tape" cX10_at 1 (some .int) 2) {r0 : Int32} (hr0 : gv0 G = some (.int r0)) {σ : gS} (hs0 : gs0 G = σ) {x1 : Int32} (h : F_X10_at_0 x1 σ = some r0) : gAt G 0 [(0, .ref (gad G 1)), (1, .int x1)] [] σ := by
  unfold F_X10_at_0 at h
  refine a_iload_n ho dX10_at_0 rfl rfl 1 rfl ?_
  refine a_if_lt (tgt := 21) ho dX10_at_1 rfl rfl (fun hc1 => ?_) (fun hc1 => ?_)
  · replace h := if_t hc1 h
    refine a_iconst (v := (-1)) ho dX10_at_21 rfl (by decide) ?_
    exact a_iret ho dX10_at_22 (rI hr0 (ro_el h)) hs0
  · replace h := if_f hc1 h
    refine a_iload_n ho dX10_at_4 rfl rfl 1 rfl ?_
    refine a_aload_n ho dX10_at_5 rfl rfl 0 rfl ?_
    refine a_getI ho fl_X10_13 o_1 (ff_8_0 _ o_1) dX10_at_6 rfl ?_
    refine a_icmp_ge (tgt := 21) ho dX10_at_9 rfl rfl (fun hc9 => ?_) (fun hc9 => ?_)
    · replace h := if_t hc9 h
      refine a_iconst (v := (-1)) ho dX10_at_21 rfl (by decide) ?_
      exact a_iret ho dX10_at_22 (rI hr0 (ro_el h)) hs0
    · replace h := if_f hc9 h
      refine a_aload_n ho dX10_at_12 rfl rfl 0 rfl ?_
      refine a_getR ho fl_X10_9 o_1 fr_8_1 dX10_at_13 rfl ?_
      refine a_iload_n ho dX10_at_16 rfl rfl 1 rfl ?_
      obtain ⟨hk17, h⟩ := ck_el h
      refine a_iald ho i_2 hk17 dX10_at_17 rfl ?_
      refine a_goto (tgt := 22) ho dX10_at_18 rfl ?_
      exact a_iret ho dX10_at_22 (rI hr0 (ro_el h)) hs0
theorem C_X10_at {l : Launch} {X : gX} {σ : gS} {r0 : Int32} {a1 : Int32} (h : F_X10_at_0 a1 σ = some r0) : gCt l X yX10_at (.code yX10_at cX10_at 2 (some .int)) 1 [.ref (X.2.2.1 1), .int a1] σ (some (.int r0)) σ :=
  gCt_of cX10_at (by decide) (Nat.le_of_ble_eq_true rfl) (fun G hl hX hv hs ho => by subst hl; subst hX; exact a_sub [0, 1] rfl (T_X10_at_0 ho hv hs h))
theorem T_X6_figure_0 {G : gM} (ho : gOk G "WaxCloth$Reader" cX6_figure 2 (some .int) 4) {r0 : Int32} (hr0 : gv0 G = some (.int r0)) {σ0 : gS} (hs0 : gs0 G = σ0) {x1 : Int32} {x2 : Int32} {σ : gS} (h : F_X6_figure_0 x1 x2 σ = some (r0, σ0)) : gAt G 0 [(0, .ref (gad G 3)), (1, .int x1), (2, .int x2)] [] σ := by
  unfold F_X6_figure_0 at h
  refine a_aload_n ho dX6_figure_0 rfl rfl 0 rfl ?_
  refine a_getR ho fl_X6_16 o_3 fr_5_2 dX6_figure_1 rfl ?_
  refine a_aload_n ho dX6_figure_4 rfl rfl 0 rfl ?_
  refine a_getI ho fl_X6_20 o_3 (ff_5_1 _ o_3) dX6_figure_5 rfl ?_
  obtain ⟨r8, hq8, h⟩ := ob_el h
  refine a_callVi ho vy_X10_at ml_X6_38 o_1 (C_X10_at hq8) rfl rfl (by decide) (Nat.le_of_ble_eq_true rfl) dX6_figure_8 rfl ?_
  refine a_bipush (v := 48) ho dX6_figure_11 rfl (by decide) ?_
  refine a_isub ho dX6_figure_13 rfl ?_
  obtain ⟨x14, hb14, h⟩ := bd_el h
  refine a_nmI hb14 ?_
  refine a_istore_n (L' := [(3, .int x14), (0, .ref (gad G 3)), (1, .int x1), (2, .int x2)]) ho dX6_figure_14 rfl rfl (by decide) rfl ?_
  refine a_iload_n ho dX6_figure_15 rfl rfl 0 rfl ?_
  refine a_iload_n ho dX6_figure_16 rfl rfl 2 rfl ?_
  refine a_icmp_lt (tgt := 25) ho dX6_figure_17 rfl rfl (fun hc17 => ?_) (fun hc17 => ?_)
  · replace h := if_t hc17 h
    refine a_iconst (v := (-1)) ho dX6_figure_25 rfl (by decide) ?_
    exact a_iret ho dX6_figure_26 (rI hr0 (re_el h).1) (rS hs0 (re_el h).2)
  · replace h := if_f hc17 h
    refine a_iload_n ho dX6_figure_20 rfl rfl 0 rfl ?_
    refine a_iload_n ho dX6_figure_21 rfl rfl 3 rfl ?_
    refine a_icmp_le (tgt := 27) ho dX6_figure_22 rfl rfl (fun hc22 => ?_) (fun hc22 => ?_)
    · replace h := if_t hc22 h
      refine a_aload_n ho dX6_figure_27 rfl rfl 1 rfl ?_
      refine a_dup ho dX6_figure_28 rfl rfl ?_
      refine a_getI ho fl_X6_20 o_3 (ff_5_1 _ o_3) dX6_figure_29 rfl ?_
      refine a_iconst (v := 1) ho dX6_figure_32 rfl (by decide) ?_
      refine a_iadd ho dX6_figure_33 rfl ?_
      refine a_putI ho fp_X6_20 o_3 (ff_5_1 _ o_3) dX6_figure_34 rfl ?_
      obtain ⟨σ34, hs34, h⟩ := bd_el h
      refine a_nmS hs34 ?_
      refine a_iload_n ho dX6_figure_37 rfl rfl 0 rfl ?_
      exact a_iret ho dX6_figure_38 (rI hr0 (re_el h).1) (rS hs0 (re_el h).2)
    · replace h := if_f hc22 h
      refine a_iconst (v := (-1)) ho dX6_figure_25 rfl (by decide) ?_
      exact a_iret ho dX6_figure_26 (rI hr0 (re_el h).1) (rS hs0 (re_el h).2)
theorem C_X6_figure {l : Launch} {X : gX} {σ σ0 : gS} {r0 : Int32} {a1 : Int32} {a2 : Int32} (h : F_X6_figure_0 a1 a2 σ = some (r0, σ0)) : gCt l X yX6_figure (.code yX6_figure cX6_figure 4 (some .int)) 2 [.ref (X.2.2.1 3), .int a1, .int a2] σ (some (.int r0)) σ0 :=
  gCt_of cX6_figure (by decide) (Nat.le_of_ble_eq_true rfl) (fun G hl hX hv hs ho => by subst hl; subst hX; exact a_sub [0, 1, 2] rfl (T_X6_figure_0 ho hv hs h))
theorem T_X6_readDye_2 {G : gM} (ho : gOk G "WaxCloth$Reader" cX6_readDye 3 (some .boolean) 4) {r0 : Int32} (hr0 : gv0 G = some (.int r0)) {σ0 : gS} (hs0 : gs0 G = σ0) : ∀ (n : Nat) (x1 : Int32) (x2 : Int32) (σ : gS), F_X6_readDye_2 n x1 x2 σ = some (r0, σ0) → gAt G 2 [(0, .ref (gad G 3)), (1, .int x1), (2, .int x2)] [] σ := by
  intro n
  induction n with
  | zero => intro x1 x2 σ h; cases h
  | succ n ih =>
    intro x1 x2 σ h
    unfold F_X6_readDye_2 at h
    refine a_iload_n ho dX6_readDye_2 rfl rfl 2 rfl ?_
    refine a_iconst (v := 3) ho dX6_readDye_3 rfl (by decide) ?_
    refine a_icmp_ge (tgt := 41) ho dX6_readDye_4 rfl rfl (fun hc4 => ?_) (fun hc4 => ?_)
    · replace h := if_t hc4 h
      refine a_iconst (v := 1) ho dX6_readDye_41 rfl (by decide) ?_
      exact a_zret ho dX6_readDye_42 rfl (rI hr0 (re_el h).1) (rS hs0 (re_el h).2)
    · replace h := if_f hc4 h
      refine a_aload_n ho dX6_readDye_7 rfl rfl 0 rfl ?_
      refine a_iconst (v := 0) ho dX6_readDye_8 rfl (by decide) ?_
      refine a_iconst (v := 3) ho dX6_readDye_9 rfl (by decide) ?_
      obtain ⟨r10, σ10, hq10, h⟩ := ob2_el h
      refine a_callVi ho vy_X6_figure ml_X6_57 o_3 (C_X6_figure hq10) rfl rfl (by decide) (Nat.le_of_ble_eq_true rfl) dX6_readDye_10 rfl ?_
      refine a_istore_n (L' := [(3, .int r10), (0, .ref (gad G 3)), (1, .int x1), (2, .int x2)]) ho dX6_readDye_13 rfl rfl (by decide) rfl ?_
      refine a_iload_n ho dX6_readDye_14 rfl rfl 0 rfl ?_
      refine a_iconst (v := (-1)) ho dX6_readDye_15 rfl (by decide) ?_
      refine a_icmp_ne (tgt := 21) ho dX6_readDye_16 rfl rfl (fun hc16 => ?_) (fun hc16 => ?_)
      · replace h := if_f hc16 h
        refine a_aload_n ho dX6_readDye_21 rfl rfl 1 rfl ?_
        refine a_getR ho fl_X6_10 o_3 fr_5_0 dX6_readDye_22 rfl ?_
        refine a_getR (q := 8) ho fl_X6_74 o_4 (fr_2_7 _ o_4) dX6_readDye_25 rfl ?_
        refine a_iload_n ho dX6_readDye_28 rfl rfl 2 rfl ?_
        refine a_iconst (v := 3) ho dX6_readDye_29 rfl (by decide) ?_
        refine a_imul ho dX6_readDye_30 rfl ?_
        refine a_iload_n ho dX6_readDye_31 rfl rfl 3 rfl ?_
        refine a_iadd ho dX6_readDye_32 rfl ?_
        refine a_iload_n ho dX6_readDye_33 rfl rfl 0 rfl ?_
        obtain ⟨hk34, h⟩ := ck_el h
        refine a_iast ho i_8 hk34 dX6_readDye_34 rfl ?_
        obtain ⟨σ34, hs34, h⟩ := bd_el h
        refine a_nmS hs34 ?_
        obtain ⟨x35, hb35, h⟩ := bd_el h
        refine a_iinc (L' := [(2, .int x35), (3, .int r10), (0, .ref (gad G 3)), (1, .int x1)]) ho dX6_readDye_35 rfl 3 rfl hb35 (by decide) rfl ?_
        refine a_goto (tgt := 2) ho dX6_readDye_38 rfl ?_
        exact a_sub [2, 3, 0] rfl (ih _ _ _ h)
      · replace h := if_t hc16 h
        refine a_iconst (v := 0) ho dX6_readDye_19 rfl (by decide) ?_
        exact a_zret ho dX6_readDye_20 rfl (rI hr0 (re_el h).1) (rS hs0 (re_el h).2)
theorem T_X6_readDye_0 {G : gM} (ho : gOk G "WaxCloth$Reader" cX6_readDye 3 (some .boolean) 4) {r0 : Int32} (hr0 : gv0 G = some (.int r0)) {σ0 : gS} (hs0 : gs0 G = σ0) {x1 : Int32} {σ : gS} (h : F_X6_readDye_0 x1 σ = some (r0, σ0)) : gAt G 0 [(0, .ref (gad G 3)), (1, .int x1)] [] σ := by
  unfold F_X6_readDye_0 at h
  refine a_iconst (v := 0) ho dX6_readDye_0 rfl (by decide) ?_
  refine a_istore_n (L' := [(2, .int 0), (0, .ref (gad G 3)), (1, .int x1)]) ho dX6_readDye_1 rfl rfl (by decide) rfl ?_
  exact a_sub [1, 2, 0] rfl (T_X6_readDye_2 ho hr0 hs0 _ _ _ _ h)
theorem C_X6_readDye {l : Launch} {X : gX} {σ σ0 : gS} {r0 : Int32} {a1 : Int32} (h : F_X6_readDye_0 a1 σ = some (r0, σ0)) : gCt l X yX6_readDye (.code yX6_readDye cX6_readDye 4 (some .boolean)) 3 [.ref (X.2.2.1 3), .int a1] σ (some (.int r0)) σ0 :=
  gCt_of cX6_readDye (by decide) (Nat.le_of_ble_eq_true rfl) (fun G hl hX hv hs ho => by subst hl; subst hX; exact a_sub [0, 1] rfl (T_X6_readDye_0 ho hv hs h))
theorem T_X6_sign_0 {G : gM} (ho : gOk G "WaxCloth$Reader" cX6_sign 2 (some .boolean) 2) {r0 : Int32} (hr0 : gv0 G = some (.int r0)) {σ0 : gS} (hs0 : gs0 G = σ0) {x1 : Int32} {σ : gS} (h : F_X6_sign_0 x1 σ = some (r0, σ0)) : gAt G 0 [(0, .ref (gad G 3)), (1, .int x1)] [] σ := by
  unfold F_X6_sign_0 at h
  refine a_aload_n ho dX6_sign_0 rfl rfl 0 rfl ?_
  refine a_getR ho fl_X6_16 o_3 fr_5_2 dX6_sign_1 rfl ?_
  refine a_aload_n ho dX6_sign_4 rfl rfl 0 rfl ?_
  refine a_getI ho fl_X6_20 o_3 (ff_5_1 _ o_3) dX6_sign_5 rfl ?_
  obtain ⟨r8, hq8, h⟩ := ob_el h
  refine a_callVi ho vy_X10_at ml_X6_38 o_1 (C_X10_at hq8) rfl rfl (by decide) (Nat.le_of_ble_eq_true rfl) dX6_sign_8 rfl ?_
  refine a_iload_n ho dX6_sign_11 rfl rfl 1 rfl ?_
  refine a_icmp_eq (tgt := 17) ho dX6_sign_12 rfl rfl (fun hc12 => ?_) (fun hc12 => ?_)
  · replace h := if_t hc12 h
    refine a_aload_n ho dX6_sign_17 rfl rfl 0 rfl ?_
    refine a_dup ho dX6_sign_18 rfl rfl ?_
    refine a_getI ho fl_X6_20 o_3 (ff_5_1 _ o_3) dX6_sign_19 rfl ?_
    refine a_iconst (v := 1) ho dX6_sign_22 rfl (by decide) ?_
    refine a_iadd ho dX6_sign_23 rfl ?_
    refine a_putI ho fp_X6_20 o_3 (ff_5_1 _ o_3) dX6_sign_24 rfl ?_
    obtain ⟨σ24, hs24, h⟩ := bd_el h
    refine a_nmS hs24 ?_
    refine a_iconst (v := 1) ho dX6_sign_27 rfl (by decide) ?_
    exact a_zret ho dX6_sign_28 rfl (rI hr0 (re_el h).1) (rS hs0 (re_el h).2)
  · replace h := if_f hc12 h
    refine a_iconst (v := 0) ho dX6_sign_15 rfl (by decide) ?_
    exact a_zret ho dX6_sign_16 rfl (rI hr0 (re_el h).1) (rS hs0 (re_el h).2)
theorem C_X6_sign {l : Launch} {X : gX} {σ σ0 : gS} {r0 : Int32} {a1 : Int32} (h : F_X6_sign_0 a1 σ = some (r0, σ0)) : gCt l X yX6_sign (.code yX6_sign cX6_sign 2 (some .boolean)) 2 [.ref (X.2.2.1 3), .int a1] σ (some (.int r0)) σ0 :=
  gCt_of cX6_sign (by decide) (Nat.le_of_ble_eq_true rfl) (fun G hl hX hv hs ho => by subst hl; subst hX; exact a_sub [0, 1] rfl (T_X6_sign_0 ho hv hs h))
theorem T_X6_readDyes_52 {G : gM} (ho : gOk G "WaxCloth$Reader" cX6_readDyes 4 (some .boolean) 2) {r0 : Int32} (hr0 : gv0 G = some (.int r0)) {σ0 : gS} (hs0 : gs0 G = σ0) {σ : gS} (h : F_X6_readDyes_52 σ = some (r0, σ0)) : gAt G 52 [(0, .ref (gad G 3))] [] σ := by
  unfold F_X6_readDyes_52 at h
  refine a_aload_n ho dX6_readDyes_52 rfl rfl 0 rfl ?_
  refine a_bipush (v := 59) ho dX6_readDyes_53 rfl (by decide) ?_
  obtain ⟨r55, σ55, hq55, h⟩ := ob2_el h
  refine a_callVi ho vy_X6_sign ml_X6_24 o_3 (C_X6_sign hq55) rfl rfl (by decide) (Nat.le_of_ble_eq_true rfl) dX6_readDyes_55 rfl ?_
  obtain ⟨hk58, h⟩ := ck_el h
  exact a_zret ho dX6_readDyes_58 (nb_n hk58) (rI hr0 (re_el h).1) (rS hs0 (re_el h).2)
theorem T_X6_readDyes_2 {G : gM} (ho : gOk G "WaxCloth$Reader" cX6_readDyes 4 (some .boolean) 2) {r0 : Int32} (hr0 : gv0 G = some (.int r0)) {σ0 : gS} (hs0 : gs0 G = σ0) : ∀ (n : Nat) (x1 : Int32) (σ : gS), F_X6_readDyes_2 n x1 σ = some (r0, σ0) → gAt G 2 [(0, .ref (gad G 3)), (1, .int x1)] [] σ := by
  intro n
  induction n with
  | zero => intro x1 σ h; cases h
  | succ n ih =>
    intro x1 σ h
    unfold F_X6_readDyes_2 at h
    refine a_iload_n ho dX6_readDyes_2 rfl rfl 1 rfl ?_
    refine a_iconst (v := 4) ho dX6_readDyes_3 rfl (by decide) ?_
    refine a_icmp_ge (tgt := 52) ho dX6_readDyes_4 rfl rfl (fun hc4 => ?_) (fun hc4 => ?_)
    · replace h := if_t hc4 h
      exact a_sub [0] rfl (T_X6_readDyes_52 ho hr0 hs0 h)
    · replace h := if_f hc4 h
      refine a_aload_n ho dX6_readDyes_7 rfl rfl 0 rfl ?_
      refine a_iload_n ho dX6_readDyes_8 rfl rfl 1 rfl ?_
      obtain ⟨r9, σ9, hq9, h⟩ := ob2_el h
      refine a_callVi ho vy_X6_readDye ml_X6_68 o_3 (C_X6_readDye hq9) rfl rfl (by decide) (Nat.le_of_ble_eq_true rfl) dX6_readDyes_9 rfl ?_
      refine a_if_ne (tgt := 17) ho dX6_readDyes_12 rfl rfl (fun hc12 => ?_) (fun hc12 => ?_)
      · replace h := if_f hc12 h
        refine a_aload_n ho dX6_readDyes_17 rfl rfl 0 rfl ?_
        refine a_getR ho fl_X6_10 o_3 fr_5_0 dX6_readDyes_18 rfl ?_
        refine a_iload_n ho dX6_readDyes_21 rfl rfl 1 rfl ?_
        refine a_iconst (v := 1) ho dX6_readDyes_22 rfl (by decide) ?_
        refine a_iadd ho dX6_readDyes_23 rfl ?_
        refine a_putI ho fp_X6_71 o_4 (ff_2_1 _ o_4) dX6_readDyes_24 rfl ?_
        obtain ⟨σ24, hs24, h⟩ := bd_el h
        refine a_nmS hs24 ?_
        refine a_iload_n ho dX6_readDyes_27 rfl rfl 1 rfl ?_
        refine a_iconst (v := 1) ho dX6_readDyes_28 rfl (by decide) ?_
        refine a_iadd ho dX6_readDyes_29 rfl ?_
        refine a_iconst (v := 4) ho dX6_readDyes_30 rfl (by decide) ?_
        refine a_icmp_eq (tgt := 52) ho dX6_readDyes_31 rfl rfl (fun hc31 => ?_) (fun hc31 => ?_)
        · replace h := if_t hc31 h
          exact a_sub [0] rfl (T_X6_readDyes_52 ho hr0 hs0 h)
        · replace h := if_f hc31 h
          refine a_aload_n ho dX6_readDyes_34 rfl rfl 0 rfl ?_
          refine a_bipush (v := 44) ho dX6_readDyes_35 rfl (by decide) ?_
          obtain ⟨r37, σ37, hq37, h⟩ := ob2_el h
          refine a_callVi ho vy_X6_sign ml_X6_24 o_3 (C_X6_sign hq37) rfl rfl (by decide) (Nat.le_of_ble_eq_true rfl) dX6_readDyes_37 rfl ?_
          refine a_if_ne (tgt := 46) ho dX6_readDyes_40 rfl rfl (fun hc40 => ?_) (fun hc40 => ?_)
          · replace h := if_f hc40 h
            obtain ⟨x46, hb46, h⟩ := bd_el h
            refine a_iinc (L' := [(1, .int x46), (0, .ref (gad G 3))]) ho dX6_readDyes_46 rfl 1 rfl hb46 (by decide) rfl ?_
            refine a_goto (tgt := 2) ho dX6_readDyes_49 rfl ?_
            exact a_sub [1, 0] rfl (ih _ _ h)
          · replace h := if_t hc40 h
            refine a_goto (tgt := 52) ho dX6_readDyes_43 rfl ?_
            exact a_sub [0] rfl (T_X6_readDyes_52 ho hr0 hs0 h)
      · replace h := if_t hc12 h
        refine a_iconst (v := 0) ho dX6_readDyes_15 rfl (by decide) ?_
        exact a_zret ho dX6_readDyes_16 rfl (rI hr0 (re_el h).1) (rS hs0 (re_el h).2)
theorem T_X6_readDyes_0 {G : gM} (ho : gOk G "WaxCloth$Reader" cX6_readDyes 4 (some .boolean) 2) {r0 : Int32} (hr0 : gv0 G = some (.int r0)) {σ0 : gS} (hs0 : gs0 G = σ0) {σ : gS} (h : F_X6_readDyes_0 σ = some (r0, σ0)) : gAt G 0 [(0, .ref (gad G 3))] [] σ := by
  unfold F_X6_readDyes_0 at h
  refine a_iconst (v := 0) ho dX6_readDyes_0 rfl (by decide) ?_
  refine a_istore_n (L' := [(1, .int 0), (0, .ref (gad G 3))]) ho dX6_readDyes_1 rfl rfl (by decide) rfl ?_
  exact a_sub [1, 0] rfl (T_X6_readDyes_2 ho hr0 hs0 _ _ _ h)
theorem C_X6_readDyes {l : Launch} {X : gX} {σ σ0 : gS} {r0 : Int32} (h : F_X6_readDyes_0 σ = some (r0, σ0)) : gCt l X yX6_readDyes (.code yX6_readDyes cX6_readDyes 2 (some .boolean)) 4 [.ref (X.2.2.1 3)] σ (some (.int r0)) σ0 :=
  gCt_of cX6_readDyes (by decide) (Nat.le_of_ble_eq_true rfl) (fun G hl hX hv hs ho => by subst hl; subst hX; exact a_sub [0] rfl (T_X6_readDyes_0 ho hv hs h))
theorem T_X6_readSquare_0 {G : gM} (ho : gOk G "WaxCloth$Reader" cX6_readSquare 3 (some .boolean) 4) {r0 : Int32} (hr0 : gv0 G = some (.int r0)) {σ0 : gS} (hs0 : gs0 G = σ0) {x1 : Int32} {σ : gS} (h : F_X6_readSquare_0 x1 σ = some (r0, σ0)) : gAt G 0 [(0, .ref (gad G 3)), (1, .int x1)] [] σ := by
  unfold F_X6_readSquare_0 at h
  refine a_aload_n ho dX6_readSquare_0 rfl rfl 0 rfl ?_
  refine a_getR ho fl_X6_16 o_3 fr_5_2 dX6_readSquare_1 rfl ?_
  refine a_aload_n ho dX6_readSquare_4 rfl rfl 0 rfl ?_
  refine a_getI ho fl_X6_20 o_3 (ff_5_1 _ o_3) dX6_readSquare_5 rfl ?_
  obtain ⟨r8, hq8, h⟩ := ob_el h
  refine a_callVi ho vy_X10_at ml_X6_38 o_1 (C_X10_at hq8) rfl rfl (by decide) (Nat.le_of_ble_eq_true rfl) dX6_readSquare_8 rfl ?_
  refine a_callSi ho vy_X3_ofLetter ml_X6_50 (C_X3_ofLetter r8) rfl rfl (by decide) (Nat.le_of_ble_eq_true rfl) dX6_readSquare_11 rfl ?_
  obtain ⟨x14, hb14, h⟩ := bd_el h
  refine a_nmI hb14 ?_
  refine a_istore_n (L' := [(2, .int x14), (0, .ref (gad G 3)), (1, .int x1)]) ho dX6_readSquare_14 rfl rfl (by decide) rfl ?_
  refine a_iload_n ho dX6_readSquare_15 rfl rfl 0 rfl ?_
  refine a_if_ne (tgt := 21) ho dX6_readSquare_16 rfl rfl (fun hc16 => ?_) (fun hc16 => ?_)
  · replace h := if_f hc16 h
    refine a_aload_n ho dX6_readSquare_21 rfl rfl 1 rfl ?_
    refine a_dup ho dX6_readSquare_22 rfl rfl ?_
    refine a_getI ho fl_X6_20 o_3 (ff_5_1 _ o_3) dX6_readSquare_23 rfl ?_
    refine a_iconst (v := 1) ho dX6_readSquare_26 rfl (by decide) ?_
    refine a_iadd ho dX6_readSquare_27 rfl ?_
    refine a_putI ho fp_X6_20 o_3 (ff_5_1 _ o_3) dX6_readSquare_28 rfl ?_
    obtain ⟨σ28, hs28, h⟩ := bd_el h
    refine a_nmS hs28 ?_
    refine a_aload_n ho dX6_readSquare_31 rfl rfl 1 rfl ?_
    refine a_iconst (v := 0) ho dX6_readSquare_32 rfl (by decide) ?_
    refine a_bipush (v := 7) ho dX6_readSquare_33 rfl (by decide) ?_
    obtain ⟨r35, σ35, hq35, h⟩ := ob2_el h
    refine a_callVi ho vy_X6_figure ml_X6_57 o_3 (C_X6_figure hq35) rfl rfl (by decide) (Nat.le_of_ble_eq_true rfl) dX6_readSquare_35 rfl ?_
    refine a_istore_n (L' := [(3, .int r35), (2, .int x14), (0, .ref (gad G 3)), (1, .int x1)]) ho dX6_readSquare_38 rfl rfl (by decide) rfl ?_
    refine a_iload_n ho dX6_readSquare_39 rfl rfl 0 rfl ?_
    refine a_iconst (v := (-1)) ho dX6_readSquare_40 rfl (by decide) ?_
    refine a_icmp_ne (tgt := 46) ho dX6_readSquare_41 rfl rfl (fun hc41 => ?_) (fun hc41 => ?_)
    · replace h := if_f hc41 h
      refine a_aload_n ho dX6_readSquare_46 rfl rfl 2 rfl ?_
      refine a_getR ho fl_X6_10 o_3 fr_5_0 dX6_readSquare_47 rfl ?_
      refine a_getR (q := 5) ho fl_X6_61 o_4 (fr_2_4 _ o_4) dX6_readSquare_50 rfl ?_
      refine a_iload_n ho dX6_readSquare_53 rfl rfl 3 rfl ?_
      refine a_iload_n ho dX6_readSquare_54 rfl rfl 1 rfl ?_
      obtain ⟨hk55, h⟩ := ck_el h
      refine a_iast ho i_5 hk55 dX6_readSquare_55 rfl ?_
      obtain ⟨σ55, hs55, h⟩ := bd_el h
      refine a_nmS hs55 ?_
      refine a_aload_n ho dX6_readSquare_56 rfl rfl 2 rfl ?_
      refine a_getR ho fl_X6_10 o_3 fr_5_0 dX6_readSquare_57 rfl ?_
      refine a_getR (q := 6) ho fl_X6_65 o_4 (fr_2_5 _ o_4) dX6_readSquare_60 rfl ?_
      refine a_iload_n ho dX6_readSquare_63 rfl rfl 3 rfl ?_
      refine a_iload_n ho dX6_readSquare_64 rfl rfl 0 rfl ?_
      obtain ⟨hk65, h⟩ := ck_el h
      refine a_iast ho i_6 hk65 dX6_readSquare_65 rfl ?_
      obtain ⟨σ65, hs65, h⟩ := bd_el h
      refine a_nmS hs65 ?_
      refine a_iconst (v := 1) ho dX6_readSquare_66 rfl (by decide) ?_
      exact a_zret ho dX6_readSquare_67 rfl (rI hr0 (re_el h).1) (rS hs0 (re_el h).2)
    · replace h := if_t hc41 h
      refine a_iconst (v := 0) ho dX6_readSquare_44 rfl (by decide) ?_
      exact a_zret ho dX6_readSquare_45 rfl (rI hr0 (re_el h).1) (rS hs0 (re_el h).2)
  · replace h := if_t hc16 h
    refine a_iconst (v := 0) ho dX6_readSquare_19 rfl (by decide) ?_
    exact a_zret ho dX6_readSquare_20 rfl (rI hr0 (re_el h).1) (rS hs0 (re_el h).2)
theorem C_X6_readSquare {l : Launch} {X : gX} {σ σ0 : gS} {r0 : Int32} {a1 : Int32} (h : F_X6_readSquare_0 a1 σ = some (r0, σ0)) : gCt l X yX6_readSquare (.code yX6_readSquare cX6_readSquare 4 (some .boolean)) 3 [.ref (X.2.2.1 3), .int a1] σ (some (.int r0)) σ0 :=
  gCt_of cX6_readSquare (by decide) (Nat.le_of_ble_eq_true rfl) (fun G hl hX hv hs ho => by subst hl; subst hX; exact a_sub [0, 1] rfl (T_X6_readSquare_0 ho hv hs h))
theorem T_X6_readSquares_54 {G : gM} (ho : gOk G "WaxCloth$Reader" cX6_readSquares 4 (some .boolean) 2) {r0 : Int32} (hr0 : gv0 G = some (.int r0)) {σ0 : gS} (hs0 : gs0 G = σ0) {σ : gS} (h : F_X6_readSquares_54 σ = some (r0, σ0)) : gAt G 54 [(0, .ref (gad G 3))] [] σ := by
  unfold F_X6_readSquares_54 at h
  refine a_aload_n ho dX6_readSquares_54 rfl rfl 0 rfl ?_
  refine a_bipush (v := 59) ho dX6_readSquares_55 rfl (by decide) ?_
  obtain ⟨r57, σ57, hq57, h⟩ := ob2_el h
  refine a_callVi ho vy_X6_sign ml_X6_24 o_3 (C_X6_sign hq57) rfl rfl (by decide) (Nat.le_of_ble_eq_true rfl) dX6_readSquares_57 rfl ?_
  obtain ⟨hk60, h⟩ := ck_el h
  exact a_zret ho dX6_readSquares_60 (nb_n hk60) (rI hr0 (re_el h).1) (rS hs0 (re_el h).2)
theorem T_X6_readSquares_2 {G : gM} (ho : gOk G "WaxCloth$Reader" cX6_readSquares 4 (some .boolean) 2) {r0 : Int32} (hr0 : gv0 G = some (.int r0)) {σ0 : gS} (hs0 : gs0 G = σ0) : ∀ (n : Nat) (x1 : Int32) (σ : gS), F_X6_readSquares_2 n x1 σ = some (r0, σ0) → gAt G 2 [(0, .ref (gad G 3)), (1, .int x1)] [] σ := by
  intro n
  induction n with
  | zero => intro x1 σ h; cases h
  | succ n ih =>
    intro x1 σ h
    unfold F_X6_readSquares_2 at h
    refine a_iload_n ho dX6_readSquares_2 rfl rfl 1 rfl ?_
    refine a_bipush (v := 8) ho dX6_readSquares_3 rfl (by decide) ?_
    refine a_icmp_ge (tgt := 54) ho dX6_readSquares_5 rfl rfl (fun hc5 => ?_) (fun hc5 => ?_)
    · replace h := if_t hc5 h
      exact a_sub [0] rfl (T_X6_readSquares_54 ho hr0 hs0 h)
    · replace h := if_f hc5 h
      refine a_aload_n ho dX6_readSquares_8 rfl rfl 0 rfl ?_
      refine a_iload_n ho dX6_readSquares_9 rfl rfl 1 rfl ?_
      obtain ⟨r10, σ10, hq10, h⟩ := ob2_el h
      refine a_callVi ho vy_X6_readSquare ml_X6_44 o_3 (C_X6_readSquare hq10) rfl rfl (by decide) (Nat.le_of_ble_eq_true rfl) dX6_readSquares_10 rfl ?_
      refine a_if_ne (tgt := 18) ho dX6_readSquares_13 rfl rfl (fun hc13 => ?_) (fun hc13 => ?_)
      · replace h := if_f hc13 h
        refine a_aload_n ho dX6_readSquares_18 rfl rfl 0 rfl ?_
        refine a_getR ho fl_X6_10 o_3 fr_5_0 dX6_readSquares_19 rfl ?_
        refine a_iload_n ho dX6_readSquares_22 rfl rfl 1 rfl ?_
        refine a_iconst (v := 1) ho dX6_readSquares_23 rfl (by decide) ?_
        refine a_iadd ho dX6_readSquares_24 rfl ?_
        refine a_putI ho fp_X6_47 o_4 (ff_2_0 _ o_4) dX6_readSquares_25 rfl ?_
        obtain ⟨σ25, hs25, h⟩ := bd_el h
        refine a_nmS hs25 ?_
        refine a_iload_n ho dX6_readSquares_28 rfl rfl 1 rfl ?_
        refine a_iconst (v := 1) ho dX6_readSquares_29 rfl (by decide) ?_
        refine a_iadd ho dX6_readSquares_30 rfl ?_
        refine a_bipush (v := 8) ho dX6_readSquares_31 rfl (by decide) ?_
        refine a_icmp_eq (tgt := 54) ho dX6_readSquares_33 rfl rfl (fun hc33 => ?_) (fun hc33 => ?_)
        · replace h := if_t hc33 h
          exact a_sub [0] rfl (T_X6_readSquares_54 ho hr0 hs0 h)
        · replace h := if_f hc33 h
          refine a_aload_n ho dX6_readSquares_36 rfl rfl 0 rfl ?_
          refine a_bipush (v := 44) ho dX6_readSquares_37 rfl (by decide) ?_
          obtain ⟨r39, σ39, hq39, h⟩ := ob2_el h
          refine a_callVi ho vy_X6_sign ml_X6_24 o_3 (C_X6_sign hq39) rfl rfl (by decide) (Nat.le_of_ble_eq_true rfl) dX6_readSquares_39 rfl ?_
          refine a_if_ne (tgt := 48) ho dX6_readSquares_42 rfl rfl (fun hc42 => ?_) (fun hc42 => ?_)
          · replace h := if_f hc42 h
            obtain ⟨x48, hb48, h⟩ := bd_el h
            refine a_iinc (L' := [(1, .int x48), (0, .ref (gad G 3))]) ho dX6_readSquares_48 rfl 1 rfl hb48 (by decide) rfl ?_
            refine a_goto (tgt := 2) ho dX6_readSquares_51 rfl ?_
            exact a_sub [1, 0] rfl (ih _ _ h)
          · replace h := if_t hc42 h
            refine a_goto (tgt := 54) ho dX6_readSquares_45 rfl ?_
            exact a_sub [0] rfl (T_X6_readSquares_54 ho hr0 hs0 h)
      · replace h := if_t hc13 h
        refine a_iconst (v := 0) ho dX6_readSquares_16 rfl (by decide) ?_
        exact a_zret ho dX6_readSquares_17 rfl (rI hr0 (re_el h).1) (rS hs0 (re_el h).2)
theorem T_X6_readSquares_0 {G : gM} (ho : gOk G "WaxCloth$Reader" cX6_readSquares 4 (some .boolean) 2) {r0 : Int32} (hr0 : gv0 G = some (.int r0)) {σ0 : gS} (hs0 : gs0 G = σ0) {σ : gS} (h : F_X6_readSquares_0 σ = some (r0, σ0)) : gAt G 0 [(0, .ref (gad G 3))] [] σ := by
  unfold F_X6_readSquares_0 at h
  refine a_iconst (v := 0) ho dX6_readSquares_0 rfl (by decide) ?_
  refine a_istore_n (L' := [(1, .int 0), (0, .ref (gad G 3))]) ho dX6_readSquares_1 rfl rfl (by decide) rfl ?_
  exact a_sub [1, 0] rfl (T_X6_readSquares_2 ho hr0 hs0 _ _ _ h)
theorem C_X6_readSquares {l : Launch} {X : gX} {σ σ0 : gS} {r0 : Int32} (h : F_X6_readSquares_0 σ = some (r0, σ0)) : gCt l X yX6_readSquares (.code yX6_readSquares cX6_readSquares 2 (some .boolean)) 4 [.ref (X.2.2.1 3)] σ (some (.int r0)) σ0 :=
  gCt_of cX6_readSquares (by decide) (Nat.le_of_ble_eq_true rfl) (fun G hl hX hv hs ho => by subst hl; subst hX; exact a_sub [0] rfl (T_X6_readSquares_0 ho hv hs h))
theorem T_X6_readStencil_6 {G : gM} (ho : gOk G "WaxCloth$Reader" cX6_readStencil 3 (some .int) 5) {r0 : Int32} (hr0 : gv0 G = some (.int r0)) {σ0 : gS} (hs0 : gs0 G = σ0) : ∀ (n : Nat) (x1 : Int32) (x2 : Int32) (x3 : Int32) (σ : gS), F_X6_readStencil_6 n x1 x2 x3 σ = some (r0, σ0) → gAt G 6 [(0, .ref (gad G 3)), (1, .int x1), (2, .int x2), (3, .int x3)] [] σ := by
  intro n
  induction n with
  | zero => intro x1 x2 x3 σ h; cases h
  | succ n ih =>
    intro x1 x2 x3 σ h
    unfold F_X6_readStencil_6 at h
    refine a_iload_n ho dX6_readStencil_6 rfl rfl 3 rfl ?_
    refine a_bipush (v := 8) ho dX6_readStencil_7 rfl (by decide) ?_
    refine a_icmp_ge (tgt := 55) ho dX6_readStencil_9 rfl rfl (fun hc9 => ?_) (fun hc9 => ?_)
    · replace h := if_t hc9 h
      refine a_iload_n ho dX6_readStencil_55 rfl rfl 1 rfl ?_
      exact a_iret ho dX6_readStencil_56 (rI hr0 (re_el h).1) (rS hs0 (re_el h).2)
    · replace h := if_f hc9 h
      refine a_aload_n ho dX6_readStencil_12 rfl rfl 0 rfl ?_
      refine a_iload_n ho dX6_readStencil_13 rfl rfl 2 rfl ?_
      refine a_aload_n ho dX6_readStencil_14 rfl rfl 0 rfl ?_
      refine a_getR ho fl_X6_10 o_3 fr_5_0 dX6_readStencil_15 rfl ?_
      refine a_getI ho fl_X6_47 o_4 (ff_2_0 _ o_4) dX6_readStencil_18 rfl ?_
      refine a_iconst (v := 1) ho dX6_readStencil_21 rfl (by decide) ?_
      refine a_isub ho dX6_readStencil_22 rfl ?_
      obtain ⟨r23, σ23, hq23, h⟩ := ob2_el h
      refine a_callVi ho vy_X6_figure ml_X6_57 o_3 (C_X6_figure hq23) rfl rfl (by decide) (Nat.le_of_ble_eq_true rfl) dX6_readStencil_23 rfl ?_
      refine a_istore (L' := [(4, .int r23), (0, .ref (gad G 3)), (1, .int x1), (2, .int x2), (3, .int x3)]) ho dX6_readStencil_26 rfl (by decide) rfl ?_
      refine a_iload ho dX6_readStencil_28 rfl 0 rfl ?_
      refine a_iconst (v := (-1)) ho dX6_readStencil_30 rfl (by decide) ?_
      refine a_icmp_ne (tgt := 37) ho dX6_readStencil_31 rfl rfl (fun hc31 => ?_) (fun hc31 => ?_)
      · replace h := if_f hc31 h
        refine a_iload_n ho dX6_readStencil_37 rfl rfl 2 rfl ?_
        refine a_iconst (v := 1) ho dX6_readStencil_38 rfl (by decide) ?_
        refine a_iload ho dX6_readStencil_39 rfl 0 rfl ?_
        refine a_ishl ho dX6_readStencil_41 rfl ?_
        refine a_ior ho dX6_readStencil_42 rfl ?_
        obtain ⟨x43, hb43, h⟩ := bd_el h
        refine a_nmI hb43 ?_
        refine a_istore_n (L' := [(1, .int x43), (4, .int r23), (0, .ref (gad G 3)), (2, .int x2), (3, .int x3)]) ho dX6_readStencil_43 rfl rfl (by decide) rfl ?_
        refine a_iload ho dX6_readStencil_44 rfl 1 rfl ?_
        refine a_iconst (v := 1) ho dX6_readStencil_46 rfl (by decide) ?_
        refine a_iadd ho dX6_readStencil_47 rfl ?_
        obtain ⟨x48, hb48, h⟩ := bd_el h
        refine a_nmI hb48 ?_
        refine a_istore_n (L' := [(2, .int x48), (1, .int x43), (4, .int r23), (0, .ref (gad G 3)), (3, .int x3)]) ho dX6_readStencil_48 rfl rfl (by decide) rfl ?_
        obtain ⟨x49, hb49, h⟩ := bd_el h
        refine a_iinc (L' := [(3, .int x49), (2, .int x48), (1, .int x43), (4, .int r23), (0, .ref (gad G 3))]) ho dX6_readStencil_49 rfl 4 rfl hb49 (by decide) rfl ?_
        refine a_goto (tgt := 6) ho dX6_readStencil_52 rfl ?_
        exact a_sub [4, 2, 1, 0] rfl (ih _ _ _ _ h)
      · replace h := if_t hc31 h
        refine a_goto (tgt := 55) ho dX6_readStencil_34 rfl ?_
        refine a_iload_n ho dX6_readStencil_55 rfl rfl 2 rfl ?_
        exact a_iret ho dX6_readStencil_56 (rI hr0 (re_el h).1) (rS hs0 (re_el h).2)
theorem T_X6_readStencil_0 {G : gM} (ho : gOk G "WaxCloth$Reader" cX6_readStencil 3 (some .int) 5) {r0 : Int32} (hr0 : gv0 G = some (.int r0)) {σ0 : gS} (hs0 : gs0 G = σ0) {σ : gS} (h : F_X6_readStencil_0 σ = some (r0, σ0)) : gAt G 0 [(0, .ref (gad G 3))] [] σ := by
  unfold F_X6_readStencil_0 at h
  refine a_iconst (v := 0) ho dX6_readStencil_0 rfl (by decide) ?_
  refine a_istore_n (L' := [(1, .int 0), (0, .ref (gad G 3))]) ho dX6_readStencil_1 rfl rfl (by decide) rfl ?_
  refine a_iconst (v := 0) ho dX6_readStencil_2 rfl (by decide) ?_
  refine a_istore_n (L' := [(2, .int 0), (1, .int 0), (0, .ref (gad G 3))]) ho dX6_readStencil_3 rfl rfl (by decide) rfl ?_
  refine a_iconst (v := 0) ho dX6_readStencil_4 rfl (by decide) ?_
  refine a_istore_n (L' := [(3, .int 0), (2, .int 0), (1, .int 0), (0, .ref (gad G 3))]) ho dX6_readStencil_5 rfl rfl (by decide) rfl ?_
  exact a_sub [3, 2, 1, 0] rfl (T_X6_readStencil_6 ho hr0 hs0 _ _ _ _ _ h)
theorem C_X6_readStencil {l : Launch} {X : gX} {σ σ0 : gS} {r0 : Int32} (h : F_X6_readStencil_0 σ = some (r0, σ0)) : gCt l X yX6_readStencil (.code yX6_readStencil cX6_readStencil 5 (some .int)) 3 [.ref (X.2.2.1 3)] σ (some (.int r0)) σ0 :=
  gCt_of cX6_readStencil (by decide) (Nat.le_of_ble_eq_true rfl) (fun G hl hX hv hs ho => by subst hl; subst hX; exact a_sub [0] rfl (T_X6_readStencil_0 ho hv hs h))
theorem T_X6_readStencils_63 {G : gM} (ho : gOk G "WaxCloth$Reader" cX6_readStencils 4 (some .boolean) 3) {r0 : Int32} (hr0 : gv0 G = some (.int r0)) {σ0 : gS} (hs0 : gs0 G = σ0) {σ : gS} (h : F_X6_readStencils_63 σ = some (r0, σ0)) : gAt G 63 [(0, .ref (gad G 3))] [] σ := by
  unfold F_X6_readStencils_63 at h
  refine a_aload_n ho dX6_readStencils_63 rfl rfl 0 rfl ?_
  refine a_getR ho fl_X6_16 o_3 fr_5_2 dX6_readStencils_64 rfl ?_
  refine a_aload_n ho dX6_readStencils_67 rfl rfl 0 rfl ?_
  refine a_getI ho fl_X6_20 o_3 (ff_5_1 _ o_3) dX6_readStencils_68 rfl ?_
  obtain ⟨r71, hq71, h⟩ := ob_el h
  refine a_callVi ho vy_X10_at ml_X6_38 o_1 (C_X10_at hq71) rfl rfl (by decide) (Nat.le_of_ble_eq_true rfl) dX6_readStencils_71 rfl ?_
  refine a_iconst (v := (-1)) ho dX6_readStencils_74 rfl (by decide) ?_
  refine a_icmp_ne (tgt := 82) ho dX6_readStencils_75 rfl rfl (fun hc75 => ?_) (fun hc75 => ?_)
  · replace h := if_f hc75 h
    refine a_iconst (v := 0) ho dX6_readStencils_82 rfl (by decide) ?_
    exact a_zret ho dX6_readStencils_83 rfl (rI hr0 (re_el h).1) (rS hs0 (re_el h).2)
  · replace h := if_t hc75 h
    refine a_iconst (v := 1) ho dX6_readStencils_78 rfl (by decide) ?_
    refine a_goto (tgt := 83) ho dX6_readStencils_79 rfl ?_
    exact a_zret ho dX6_readStencils_83 rfl (rI hr0 (re_el h).1) (rS hs0 (re_el h).2)
theorem T_X6_readStencils_2 {G : gM} (ho : gOk G "WaxCloth$Reader" cX6_readStencils 4 (some .boolean) 3) {r0 : Int32} (hr0 : gv0 G = some (.int r0)) {σ0 : gS} (hs0 : gs0 G = σ0) : ∀ (n : Nat) (x1 : Int32) (σ : gS), F_X6_readStencils_2 n x1 σ = some (r0, σ0) → gAt G 2 [(0, .ref (gad G 3)), (1, .int x1)] [] σ := by
  intro n
  induction n with
  | zero => intro x1 σ h; cases h
  | succ n ih =>
    intro x1 σ h
    unfold F_X6_readStencils_2 at h
    refine a_iload_n ho dX6_readStencils_2 rfl rfl 1 rfl ?_
    refine a_iconst (v := 3) ho dX6_readStencils_3 rfl (by decide) ?_
    refine a_icmp_ge (tgt := 63) ho dX6_readStencils_4 rfl rfl (fun hc4 => ?_) (fun hc4 => ?_)
    · replace h := if_t hc4 h
      exact a_sub [0] rfl (T_X6_readStencils_63 ho hr0 hs0 h)
    · replace h := if_f hc4 h
      refine a_aload_n ho dX6_readStencils_7 rfl rfl 0 rfl ?_
      obtain ⟨r8, σ8, hq8, h⟩ := ob2_el h
      refine a_callVi ho vy_X6_readStencil ml_X6_77 o_3 (C_X6_readStencil hq8) rfl rfl (by decide) (Nat.le_of_ble_eq_true rfl) dX6_readStencils_8 rfl ?_
      refine a_istore_n (L' := [(2, .int r8), (0, .ref (gad G 3)), (1, .int x1)]) ho dX6_readStencils_11 rfl rfl (by decide) rfl ?_
      refine a_iload_n ho dX6_readStencils_12 rfl rfl 0 rfl ?_
      refine a_if_ne (tgt := 18) ho dX6_readStencils_13 rfl rfl (fun hc13 => ?_) (fun hc13 => ?_)
      · replace h := if_f hc13 h
        refine a_aload_n ho dX6_readStencils_18 rfl rfl 1 rfl ?_
        refine a_getR ho fl_X6_10 o_3 fr_5_0 dX6_readStencils_19 rfl ?_
        refine a_getR (q := 9) ho fl_X6_81 o_4 (fr_2_8 _ o_4) dX6_readStencils_22 rfl ?_
        refine a_iload_n ho dX6_readStencils_25 rfl rfl 2 rfl ?_
        refine a_iload_n ho dX6_readStencils_26 rfl rfl 0 rfl ?_
        obtain ⟨hk27, h⟩ := ck_el h
        refine a_iast ho i_9 hk27 dX6_readStencils_27 rfl ?_
        obtain ⟨σ27, hs27, h⟩ := bd_el h
        refine a_nmS hs27 ?_
        refine a_aload_n ho dX6_readStencils_28 rfl rfl 1 rfl ?_
        refine a_getR ho fl_X6_10 o_3 fr_5_0 dX6_readStencils_29 rfl ?_
        refine a_iload_n ho dX6_readStencils_32 rfl rfl 2 rfl ?_
        refine a_iconst (v := 1) ho dX6_readStencils_33 rfl (by decide) ?_
        refine a_iadd ho dX6_readStencils_34 rfl ?_
        refine a_putI ho fp_X6_84 o_4 (ff_2_2 _ o_4) dX6_readStencils_35 rfl ?_
        obtain ⟨σ35, hs35, h⟩ := bd_el h
        refine a_nmS hs35 ?_
        refine a_iload_n ho dX6_readStencils_38 rfl rfl 2 rfl ?_
        refine a_iconst (v := 1) ho dX6_readStencils_39 rfl (by decide) ?_
        refine a_iadd ho dX6_readStencils_40 rfl ?_
        refine a_iconst (v := 3) ho dX6_readStencils_41 rfl (by decide) ?_
        refine a_icmp_eq (tgt := 63) ho dX6_readStencils_42 rfl rfl (fun hc42 => ?_) (fun hc42 => ?_)
        · replace h := if_t hc42 h
          exact a_sub [1] rfl (T_X6_readStencils_63 ho hr0 hs0 h)
        · replace h := if_f hc42 h
          refine a_aload_n ho dX6_readStencils_45 rfl rfl 1 rfl ?_
          refine a_bipush (v := 44) ho dX6_readStencils_46 rfl (by decide) ?_
          obtain ⟨r48, σ48, hq48, h⟩ := ob2_el h
          refine a_callVi ho vy_X6_sign ml_X6_24 o_3 (C_X6_sign hq48) rfl rfl (by decide) (Nat.le_of_ble_eq_true rfl) dX6_readStencils_48 rfl ?_
          refine a_if_ne (tgt := 57) ho dX6_readStencils_51 rfl rfl (fun hc51 => ?_) (fun hc51 => ?_)
          · replace h := if_f hc51 h
            obtain ⟨x57, hb57, h⟩ := bd_el h
            refine a_iinc (L' := [(1, .int x57), (2, .int r8), (0, .ref (gad G 3))]) ho dX6_readStencils_57 rfl 2 rfl hb57 (by decide) rfl ?_
            refine a_goto (tgt := 2) ho dX6_readStencils_60 rfl ?_
            exact a_sub [2, 0] rfl (ih _ _ h)
          · replace h := if_t hc51 h
            refine a_goto (tgt := 63) ho dX6_readStencils_54 rfl ?_
            exact a_sub [1] rfl (T_X6_readStencils_63 ho hr0 hs0 h)
      · replace h := if_t hc13 h
        refine a_iconst (v := 0) ho dX6_readStencils_16 rfl (by decide) ?_
        exact a_zret ho dX6_readStencils_17 rfl (rI hr0 (re_el h).1) (rS hs0 (re_el h).2)
theorem T_X6_readStencils_0 {G : gM} (ho : gOk G "WaxCloth$Reader" cX6_readStencils 4 (some .boolean) 3) {r0 : Int32} (hr0 : gv0 G = some (.int r0)) {σ0 : gS} (hs0 : gs0 G = σ0) {σ : gS} (h : F_X6_readStencils_0 σ = some (r0, σ0)) : gAt G 0 [(0, .ref (gad G 3))] [] σ := by
  unfold F_X6_readStencils_0 at h
  refine a_iconst (v := 0) ho dX6_readStencils_0 rfl (by decide) ?_
  refine a_istore_n (L' := [(1, .int 0), (0, .ref (gad G 3))]) ho dX6_readStencils_1 rfl rfl (by decide) rfl ?_
  exact a_sub [1, 0] rfl (T_X6_readStencils_2 ho hr0 hs0 _ _ _ h)
theorem C_X6_readStencils {l : Launch} {X : gX} {σ σ0 : gS} {r0 : Int32} (h : F_X6_readStencils_0 σ = some (r0, σ0)) : gCt l X yX6_readStencils (.code yX6_readStencils cX6_readStencils 3 (some .boolean)) 4 [.ref (X.2.2.1 3)] σ (some (.int r0)) σ0 :=
  gCt_of cX6_readStencils (by decide) (Nat.le_of_ble_eq_true rfl) (fun G hl hX hv hs ho => by subst hl; subst hX; exact a_sub [0] rfl (T_X6_readStencils_0 ho hv hs h))
theorem T_X6_read_0 {G : gM} (ho : gOk G "WaxCloth$Reader" cX6_read 5 (some .boolean) 1) {r0 : Int32} (hr0 : gv0 G = some (.int r0)) {σ0 : gS} (hs0 : gs0 G = σ0) {σ : gS} (h : F_X6_read_0 σ = some (r0, σ0)) : gAt G 0 [(0, .ref (gad G 3))] [] σ := by
  unfold F_X6_read_0 at h
  refine a_aload_n ho dX6_read_0 rfl rfl 0 rfl ?_
  refine a_iconst (v := 0) ho dX6_read_1 rfl (by decide) ?_
  refine a_putI ho fp_X6_20 o_3 (ff_5_1 _ o_3) dX6_read_2 rfl ?_
  obtain ⟨σ2, hs2, h⟩ := bd_el h
  refine a_nmS hs2 ?_
  refine a_aload_n ho dX6_read_5 rfl rfl 0 rfl ?_
  refine a_bipush (v := 119) ho dX6_read_6 rfl (by decide) ?_
  obtain ⟨r8, σ8, hq8, h⟩ := ob2_el h
  refine a_callVi ho vy_X6_sign ml_X6_24 o_3 (C_X6_sign hq8) rfl rfl (by decide) (Nat.le_of_ble_eq_true rfl) dX6_read_8 rfl ?_
  refine a_if_eq (tgt := 39) ho dX6_read_11 rfl rfl (fun hc11 => ?_) (fun hc11 => ?_)
  · replace h := if_t hc11 h
    refine a_iconst (v := 0) ho dX6_read_39 rfl (by decide) ?_
    exact a_zret ho dX6_read_40 rfl (rI hr0 (re_el h).1) (rS hs0 (re_el h).2)
  · replace h := if_f hc11 h
    refine a_aload_n ho dX6_read_14 rfl rfl 0 rfl ?_
    obtain ⟨r15, σ15, hq15, h⟩ := ob2_el h
    refine a_callVi ho vy_X6_readSquares ml_X6_28 o_3 (C_X6_readSquares hq15) rfl rfl (by decide) (Nat.le_of_ble_eq_true rfl) dX6_read_15 rfl ?_
    refine a_if_eq (tgt := 39) ho dX6_read_18 rfl rfl (fun hc18 => ?_) (fun hc18 => ?_)
    · replace h := if_t hc18 h
      refine a_iconst (v := 0) ho dX6_read_39 rfl (by decide) ?_
      exact a_zret ho dX6_read_40 rfl (rI hr0 (re_el h).1) (rS hs0 (re_el h).2)
    · replace h := if_f hc18 h
      refine a_aload_n ho dX6_read_21 rfl rfl 0 rfl ?_
      obtain ⟨r22, σ22, hq22, h⟩ := ob2_el h
      refine a_callVi ho vy_X6_readDyes ml_X6_32 o_3 (C_X6_readDyes hq22) rfl rfl (by decide) (Nat.le_of_ble_eq_true rfl) dX6_read_22 rfl ?_
      refine a_if_eq (tgt := 39) ho dX6_read_25 rfl rfl (fun hc25 => ?_) (fun hc25 => ?_)
      · replace h := if_t hc25 h
        refine a_iconst (v := 0) ho dX6_read_39 rfl (by decide) ?_
        exact a_zret ho dX6_read_40 rfl (rI hr0 (re_el h).1) (rS hs0 (re_el h).2)
      · replace h := if_f hc25 h
        refine a_aload_n ho dX6_read_28 rfl rfl 0 rfl ?_
        obtain ⟨r29, σ29, hq29, h⟩ := ob2_el h
        refine a_callVi ho vy_X6_readStencils ml_X6_35 o_3 (C_X6_readStencils hq29) rfl rfl (by decide) (Nat.le_of_ble_eq_true rfl) dX6_read_29 rfl ?_
        refine a_if_eq (tgt := 39) ho dX6_read_32 rfl rfl (fun hc32 => ?_) (fun hc32 => ?_)
        · replace h := if_t hc32 h
          refine a_iconst (v := 0) ho dX6_read_39 rfl (by decide) ?_
          exact a_zret ho dX6_read_40 rfl (rI hr0 (re_el h).1) (rS hs0 (re_el h).2)
        · replace h := if_f hc32 h
          refine a_iconst (v := 1) ho dX6_read_35 rfl (by decide) ?_
          refine a_goto (tgt := 40) ho dX6_read_36 rfl ?_
          exact a_zret ho dX6_read_40 rfl (rI hr0 (re_el h).1) (rS hs0 (re_el h).2)
theorem C_X6_read {l : Launch} {X : gX} {σ σ0 : gS} {r0 : Int32} (h : F_X6_read_0 σ = some (r0, σ0)) : gCt l X yX6_read (.code yX6_read cX6_read 1 (some .boolean)) 5 [.ref (X.2.2.1 3)] σ (some (.int r0)) σ0 :=
  gCt_of cX6_read (by decide) (Nat.le_of_ble_eq_true rfl) (fun G hl hX hv hs ho => by subst hl; subst hX; exact a_sub [0] rfl (T_X6_read_0 ho hv hs h))
theorem T_X7_lapOf_62 {G : gM} (ho : gOk G "WaxCloth$Rounds" cX7_lapOf 6 (some .int) 9) {r0 : Int32} (hr0 : gv0 G = some (.int r0)) {σ : gS} (hs0 : gs0 G = σ) {c2 : Nat} {g28 : Int32 → Int32 → Int32 → Int32 → Int32 → Int32 → Int32 → gS → Option Int32} (hg28 : ∀ (x1 : Int32) (x3 : Int32) (x4 : Int32) (x5 : Int32) (x6 : Int32) (x7 : Int32) (x8 : Int32), g28 x1 x3 x4 x5 x6 x7 x8 σ = some r0 → gAt G 28 [(0, .ref (gad G 10)), (1, .int x1), (2, .ref (gad G c2)), (3, .int x3), (4, .int x4), (5, .int x5), (6, .int x6), (7, .int x7), (8, .int x8)] [] σ) (hc2 : isI c2 20) {x1 : Int32} {x3 : Int32} {x4 : Int32} {x5 : Int32} {x6 : Int32} {x7 : Int32} {x8 : Int32} (h : F_X7_lapOf_62 g28 c2 x1 x3 x4 x5 x6 x7 x8 σ = some r0) : gAt G 62 [(0, .ref (gad G 10)), (1, .int x1), (2, .ref (gad G c2)), (3, .int x3), (4, .int x4), (5, .int x5), (6, .int x6), (7, .int x7), (8, .int x8)] [] σ := by
  unfold F_X7_lapOf_62 at h
  refine a_aload_n ho dX7_lapOf_62 rfl rfl 0 rfl ?_
  refine a_iload_n ho dX7_lapOf_63 rfl rfl 1 rfl ?_
  refine a_iload ho dX7_lapOf_64 rfl 5 rfl ?_
  refine a_aload_n ho dX7_lapOf_66 rfl rfl 2 rfl ?_
  refine a_iload_n ho dX7_lapOf_67 rfl rfl 3 rfl ?_
  obtain ⟨r68, hq68, h⟩ := ob_el h
  refine a_callVi ho vy_X2_afterRow ml_X7_44 o_10 (C_X2_afterRow hc2 hq68) rfl rfl (by decide) (Nat.le_of_ble_eq_true rfl) dX7_lapOf_68 rfl ?_
  refine a_istore (L' := [(5, .int r68), (0, .ref (gad G 10)), (1, .int x1), (2, .ref (gad G c2)), (3, .int x3), (4, .int x4), (6, .int x6), (7, .int x7), (8, .int x8)]) ho dX7_lapOf_71 rfl (by decide) rfl ?_
  obtain ⟨x73, hb73, h⟩ := bd_el h
  refine a_iinc (L' := [(6, .int x73), (5, .int r68), (0, .ref (gad G 10)), (1, .int x1), (2, .ref (gad G c2)), (3, .int x3), (4, .int x4), (7, .int x7), (8, .int x8)]) ho dX7_lapOf_73 rfl 6 rfl hb73 (by decide) rfl ?_
  obtain ⟨x76, hb76, h⟩ := bd_el h
  refine a_iinc (L' := [(8, .int x76), (6, .int x73), (5, .int r68), (0, .ref (gad G 10)), (1, .int x1), (2, .ref (gad G c2)), (3, .int x3), (4, .int x4), (7, .int x7)]) ho dX7_lapOf_76 rfl 8 rfl hb76 (by decide) rfl ?_
  refine a_goto (tgt := 28) ho dX7_lapOf_79 rfl ?_
  exact a_sub [3, 4, 5, 6, 7, 2, 1, 8, 0] rfl (hg28 _ _ _ _ _ _ _ h)
theorem T_X7_lapOf_28 {G : gM} (ho : gOk G "WaxCloth$Rounds" cX7_lapOf 6 (some .int) 9) {r0 : Int32} (hr0 : gv0 G = some (.int r0)) {σ : gS} (hs0 : gs0 G = σ) {c2 : Nat} (hc2 : isI c2 20) : ∀ (n : Nat) (x1 : Int32) (x3 : Int32) (x4 : Int32) (x5 : Int32) (x6 : Int32) (x7 : Int32) (x8 : Int32), F_X7_lapOf_28 c2 n x1 x3 x4 x5 x6 x7 x8 σ = some r0 → gAt G 28 [(0, .ref (gad G 10)), (1, .int x1), (2, .ref (gad G c2)), (3, .int x3), (4, .int x4), (5, .int x5), (6, .int x6), (7, .int x7), (8, .int x8)] [] σ := by
  intro n
  induction n with
  | zero => intro x1 x3 x4 x5 x6 x7 x8 h; cases h
  | succ n ih =>
    intro x1 x3 x4 x5 x6 x7 x8 h
    unfold F_X7_lapOf_28 at h
    refine a_iload ho dX7_lapOf_28 rfl 5 rfl ?_
    refine a_iload ho dX7_lapOf_30 rfl 4 rfl ?_
    refine a_icmp_eq (tgt := 82) ho dX7_lapOf_32 rfl rfl (fun hc32 => ?_) (fun hc32 => ?_)
    · replace h := if_t hc32 h
      refine a_iload ho dX7_lapOf_82 rfl 6 rfl ?_
      exact a_iret ho dX7_lapOf_84 (rI hr0 (ro_el h)) hs0
    · replace h := if_f hc32 h
      refine a_iload ho dX7_lapOf_35 rfl 8 rfl ?_
      refine a_ldc ho dX7_lapOf_37 rfl kk_X7_48 ?_
      refine a_icmp_ge (tgt := 82) ho dX7_lapOf_39 rfl rfl (fun hc39 => ?_) (fun hc39 => ?_)
      · replace h := if_t hc39 h
        refine a_iload ho dX7_lapOf_82 rfl 6 rfl ?_
        exact a_iret ho dX7_lapOf_84 (rI hr0 (ro_el h)) hs0
      · replace h := if_f hc39 h
        refine a_iload ho dX7_lapOf_42 rfl 6 rfl ?_
        refine a_iload ho dX7_lapOf_44 rfl 7 rfl ?_
        refine a_icmp_ne (tgt := 62) ho dX7_lapOf_46 rfl rfl (fun hc46 => ?_) (fun hc46 => ?_)
        · replace h := if_f hc46 h
          exact a_sub [0, 1, 2, 3, 4, 5, 6, 7, 8] rfl (T_X7_lapOf_62 ho hr0 hs0 ih hc2 h)
        · replace h := if_t hc46 h
          refine a_iload ho dX7_lapOf_49 rfl 5 rfl ?_
          refine a_istore (L' := [(4, .int x5), (0, .ref (gad G 10)), (1, .int x1), (2, .ref (gad G c2)), (3, .int x3), (5, .int x5), (6, .int x6), (7, .int x7), (8, .int x8)]) ho dX7_lapOf_51 rfl (by decide) rfl ?_
          refine a_iload ho dX7_lapOf_53 rfl 7 rfl ?_
          refine a_iconst (v := 2) ho dX7_lapOf_55 rfl (by decide) ?_
          refine a_imul ho dX7_lapOf_56 rfl ?_
          obtain ⟨x57, hb57, h⟩ := bd_el h
          refine a_nmI hb57 ?_
          refine a_istore (L' := [(7, .int x57), (4, .int x5), (0, .ref (gad G 10)), (1, .int x1), (2, .ref (gad G c2)), (3, .int x3), (5, .int x5), (6, .int x6), (8, .int x8)]) ho dX7_lapOf_57 rfl (by decide) rfl ?_
          refine a_iconst (v := 0) ho dX7_lapOf_59 rfl (by decide) ?_
          refine a_istore (L' := [(6, .int 0), (7, .int x57), (4, .int x5), (0, .ref (gad G 10)), (1, .int x1), (2, .ref (gad G c2)), (3, .int x3), (5, .int x5), (8, .int x8)]) ho dX7_lapOf_60 rfl (by decide) rfl ?_
          exact a_sub [3, 4, 5, 6, 2, 7, 0, 1, 8] rfl (T_X7_lapOf_62 ho hr0 hs0 ih hc2 h)
theorem T_X7_lapOf_0 {G : gM} (ho : gOk G "WaxCloth$Rounds" cX7_lapOf 6 (some .int) 9) {r0 : Int32} (hr0 : gv0 G = some (.int r0)) {σ : gS} (hs0 : gs0 G = σ) {c2 : Nat} (hc2 : isI c2 20) {x1 : Int32} {x3 : Int32} (h : F_X7_lapOf_0 c2 x1 x3 σ = some r0) : gAt G 0 [(0, .ref (gad G 10)), (1, .int x1), (2, .ref (gad G c2)), (3, .int x3)] [] σ := by
  unfold F_X7_lapOf_0 at h
  refine a_aload_n ho dX7_lapOf_0 rfl rfl 0 rfl ?_
  refine a_getR (q := 13) ho fl_X7_40 o_10 (fr_2_6 _ o_10) dX7_lapOf_1 rfl ?_
  refine a_iload_n ho dX7_lapOf_4 rfl rfl 1 rfl ?_
  obtain ⟨hk5, h⟩ := ck_el h
  refine a_iald ho i_13 hk5 dX7_lapOf_5 rfl ?_
  obtain ⟨x6, hb6, h⟩ := bd_el h
  refine a_nmI hb6 ?_
  refine a_istore (L' := [(4, .int x6), (0, .ref (gad G 10)), (1, .int x1), (2, .ref (gad G c2)), (3, .int x3)]) ho dX7_lapOf_6 rfl (by decide) rfl ?_
  refine a_aload_n ho dX7_lapOf_8 rfl rfl 1 rfl ?_
  refine a_iload_n ho dX7_lapOf_9 rfl rfl 2 rfl ?_
  refine a_iload ho dX7_lapOf_10 rfl 0 rfl ?_
  refine a_aload_n ho dX7_lapOf_12 rfl rfl 3 rfl ?_
  refine a_iload_n ho dX7_lapOf_13 rfl rfl 4 rfl ?_
  obtain ⟨r14, hq14, h⟩ := ob_el h
  refine a_callVi ho vy_X2_afterRow ml_X7_44 o_10 (C_X2_afterRow hc2 hq14) rfl rfl (by decide) (Nat.le_of_ble_eq_true rfl) dX7_lapOf_14 rfl ?_
  refine a_istore (L' := [(5, .int r14), (4, .int x6), (0, .ref (gad G 10)), (1, .int x1), (2, .ref (gad G c2)), (3, .int x3)]) ho dX7_lapOf_17 rfl (by decide) rfl ?_
  refine a_iconst (v := 1) ho dX7_lapOf_19 rfl (by decide) ?_
  refine a_istore (L' := [(6, .int 1), (5, .int r14), (4, .int x6), (0, .ref (gad G 10)), (1, .int x1), (2, .ref (gad G c2)), (3, .int x3)]) ho dX7_lapOf_20 rfl (by decide) rfl ?_
  refine a_iconst (v := 1) ho dX7_lapOf_22 rfl (by decide) ?_
  refine a_istore (L' := [(7, .int 1), (6, .int 1), (5, .int r14), (4, .int x6), (0, .ref (gad G 10)), (1, .int x1), (2, .ref (gad G c2)), (3, .int x3)]) ho dX7_lapOf_23 rfl (by decide) rfl ?_
  refine a_iconst (v := 0) ho dX7_lapOf_25 rfl (by decide) ?_
  refine a_istore (L' := [(8, .int 0), (7, .int 1), (6, .int 1), (5, .int r14), (4, .int x6), (0, .ref (gad G 10)), (1, .int x1), (2, .ref (gad G c2)), (3, .int x3)]) ho dX7_lapOf_26 rfl (by decide) rfl ?_
  exact a_sub [5, 6, 7, 8, 4, 3, 2, 1, 0] rfl (T_X7_lapOf_28 ho hr0 hs0 hc2 _ _ _ _ _ _ _ _ h)
theorem C_X7_lapOf {l : Launch} {X : gX} {σ : gS} {r0 : Int32} {c2 : Nat} (hc2 : isI c2 20) {a1 : Int32} {a3 : Int32} (h : F_X7_lapOf_0 c2 a1 a3 σ = some r0) : gCt l X yX7_lapOf (.code yX7_lapOf cX7_lapOf 9 (some .int)) 6 [.ref (X.2.2.1 10), .int a1, .ref (X.2.2.1 c2), .int a3] σ (some (.int r0)) σ :=
  gCt_of cX7_lapOf (by decide) (Nat.le_of_ble_eq_true rfl) (fun G hl hX hv hs ho => by subst hl; subst hX; exact a_sub [0, 1, 2, 3] rfl (T_X7_lapOf_0 ho hv hs hc2 h))
theorem T_X7_leadOf_45 {G : gM} (ho : gOk G "WaxCloth$Rounds" cX7_leadOf 6 (some .int) 9) {r0 : Int32} (hr0 : gv0 G = some (.int r0)) {σ : gS} (hs0 : gs0 G = σ) {c2 : Nat} (hc2 : isI c2 20) : ∀ (n : Nat) (x1 : Int32) (x3 : Int32) (x5 : Int32) (x6 : Int32) (x7 : Int32) (x8 : Int32), F_X7_leadOf_45 c2 n x1 x3 x5 x6 x7 x8 σ = some r0 → gAt G 45 [(0, .ref (gad G 10)), (1, .int x1), (2, .ref (gad G c2)), (3, .int x3), (5, .int x5), (6, .int x6), (7, .int x7), (8, .int x8)] [] σ := by
  intro n
  induction n with
  | zero => intro x1 x3 x5 x6 x7 x8 h; cases h
  | succ n ih =>
    intro x1 x3 x5 x6 x7 x8 h
    unfold F_X7_leadOf_45 at h
    refine a_iload ho dX7_leadOf_45 rfl 5 rfl ?_
    refine a_iload ho dX7_leadOf_47 rfl 4 rfl ?_
    refine a_icmp_eq (tgt := 90) ho dX7_leadOf_49 rfl rfl (fun hc49 => ?_) (fun hc49 => ?_)
    · replace h := if_t hc49 h
      refine a_iload ho dX7_leadOf_90 rfl 6 rfl ?_
      exact a_iret ho dX7_leadOf_92 (rI hr0 (ro_el h)) hs0
    · replace h := if_f hc49 h
      refine a_iload ho dX7_leadOf_52 rfl 7 rfl ?_
      refine a_ldc ho dX7_leadOf_54 rfl kk_X7_48 ?_
      refine a_icmp_ge (tgt := 90) ho dX7_leadOf_56 rfl rfl (fun hc56 => ?_) (fun hc56 => ?_)
      · replace h := if_t hc56 h
        refine a_iload ho dX7_leadOf_90 rfl 6 rfl ?_
        exact a_iret ho dX7_leadOf_92 (rI hr0 (ro_el h)) hs0
      · replace h := if_f hc56 h
        refine a_aload_n ho dX7_leadOf_59 rfl rfl 0 rfl ?_
        refine a_iload_n ho dX7_leadOf_60 rfl rfl 1 rfl ?_
        refine a_iload ho dX7_leadOf_61 rfl 5 rfl ?_
        refine a_aload_n ho dX7_leadOf_63 rfl rfl 2 rfl ?_
        refine a_iload_n ho dX7_leadOf_64 rfl rfl 3 rfl ?_
        obtain ⟨r65, hq65, h⟩ := ob_el h
        refine a_callVi ho vy_X2_afterRow ml_X7_44 o_10 (C_X2_afterRow hc2 hq65) rfl rfl (by decide) (Nat.le_of_ble_eq_true rfl) dX7_leadOf_65 rfl ?_
        refine a_istore (L' := [(6, .int r65), (0, .ref (gad G 10)), (1, .int x1), (2, .ref (gad G c2)), (3, .int x3), (5, .int x5), (7, .int x7), (8, .int x8)]) ho dX7_leadOf_68 rfl (by decide) rfl ?_
        refine a_aload_n ho dX7_leadOf_70 rfl rfl 1 rfl ?_
        refine a_iload_n ho dX7_leadOf_71 rfl rfl 2 rfl ?_
        refine a_iload ho dX7_leadOf_72 rfl 5 rfl ?_
        refine a_aload_n ho dX7_leadOf_74 rfl rfl 3 rfl ?_
        refine a_iload_n ho dX7_leadOf_75 rfl rfl 4 rfl ?_
        obtain ⟨r76, hq76, h⟩ := ob_el h
        refine a_callVi ho vy_X2_afterRow ml_X7_44 o_10 (C_X2_afterRow hc2 hq76) rfl rfl (by decide) (Nat.le_of_ble_eq_true rfl) dX7_leadOf_76 rfl ?_
        refine a_istore (L' := [(5, .int r76), (6, .int r65), (0, .ref (gad G 10)), (1, .int x1), (2, .ref (gad G c2)), (3, .int x3), (7, .int x7), (8, .int x8)]) ho dX7_leadOf_79 rfl (by decide) rfl ?_
        obtain ⟨x81, hb81, h⟩ := bd_el h
        refine a_iinc (L' := [(7, .int x81), (5, .int r76), (6, .int r65), (0, .ref (gad G 10)), (1, .int x1), (2, .ref (gad G c2)), (3, .int x3), (8, .int x8)]) ho dX7_leadOf_81 rfl 6 rfl hb81 (by decide) rfl ?_
        obtain ⟨x84, hb84, h⟩ := bd_el h
        refine a_iinc (L' := [(8, .int x84), (7, .int x81), (5, .int r76), (6, .int r65), (0, .ref (gad G 10)), (1, .int x1), (2, .ref (gad G c2)), (3, .int x3)]) ho dX7_leadOf_84 rfl 7 rfl hb84 (by decide) rfl ?_
        refine a_goto (tgt := 45) ho dX7_leadOf_87 rfl ?_
        exact a_sub [4, 5, 6, 7, 2, 3, 1, 0] rfl (ih _ _ _ _ _ _ h)
theorem T_X7_leadOf_15 {G : gM} (ho : gOk G "WaxCloth$Rounds" cX7_leadOf 6 (some .int) 9) {r0 : Int32} (hr0 : gv0 G = some (.int r0)) {σ : gS} (hs0 : gs0 G = σ) {c2 : Nat} (hc2 : isI c2 20) : ∀ (n : Nat) (x1 : Int32) (x3 : Int32) (x4 : Int32) (x5 : Int32) (x6 : Int32) (x7 : Int32), F_X7_leadOf_15 c2 n x1 x3 x4 x5 x6 x7 σ = some r0 → gAt G 15 [(0, .ref (gad G 10)), (1, .int x1), (2, .ref (gad G c2)), (3, .int x3), (4, .int x4), (5, .int x5), (6, .int x6), (7, .int x7)] [] σ := by
  intro n
  induction n with
  | zero => intro x1 x3 x4 x5 x6 x7 h; cases h
  | succ n ih =>
    intro x1 x3 x4 x5 x6 x7 h
    unfold F_X7_leadOf_15 at h
    refine a_iload ho dX7_leadOf_15 rfl 7 rfl ?_
    refine a_iload ho dX7_leadOf_17 rfl 4 rfl ?_
    refine a_icmp_ge (tgt := 39) ho dX7_leadOf_19 rfl rfl (fun hc19 => ?_) (fun hc19 => ?_)
    · replace h := if_t hc19 h
      refine a_iconst (v := 0) ho dX7_leadOf_39 rfl (by decide) ?_
      refine a_istore (L' := [(7, .int 0), (0, .ref (gad G 10)), (1, .int x1), (2, .ref (gad G c2)), (3, .int x3), (4, .int x4), (5, .int x5), (6, .int x6)]) ho dX7_leadOf_40 rfl (by decide) rfl ?_
      refine a_iconst (v := 0) ho dX7_leadOf_42 rfl (by decide) ?_
      refine a_istore (L' := [(8, .int 0), (7, .int 0), (0, .ref (gad G 10)), (1, .int x1), (2, .ref (gad G c2)), (3, .int x3), (4, .int x4), (5, .int x5), (6, .int x6)]) ho dX7_leadOf_43 rfl (by decide) rfl ?_
      exact a_sub [2, 3, 4, 5, 7, 8, 1, 0] rfl (T_X7_leadOf_45 ho hr0 hs0 hc2 _ _ _ _ _ _ _ h)
    · replace h := if_f hc19 h
      refine a_aload_n ho dX7_leadOf_22 rfl rfl 0 rfl ?_
      refine a_iload_n ho dX7_leadOf_23 rfl rfl 1 rfl ?_
      refine a_iload ho dX7_leadOf_24 rfl 6 rfl ?_
      refine a_aload_n ho dX7_leadOf_26 rfl rfl 2 rfl ?_
      refine a_iload_n ho dX7_leadOf_27 rfl rfl 3 rfl ?_
      obtain ⟨r28, hq28, h⟩ := ob_el h
      refine a_callVi ho vy_X2_afterRow ml_X7_44 o_10 (C_X2_afterRow hc2 hq28) rfl rfl (by decide) (Nat.le_of_ble_eq_true rfl) dX7_leadOf_28 rfl ?_
      refine a_istore (L' := [(6, .int r28), (0, .ref (gad G 10)), (1, .int x1), (2, .ref (gad G c2)), (3, .int x3), (4, .int x4), (5, .int x5), (7, .int x7)]) ho dX7_leadOf_31 rfl (by decide) rfl ?_
      obtain ⟨x33, hb33, h⟩ := bd_el h
      refine a_iinc (L' := [(7, .int x33), (6, .int r28), (0, .ref (gad G 10)), (1, .int x1), (2, .ref (gad G c2)), (3, .int x3), (4, .int x4), (5, .int x5)]) ho dX7_leadOf_33 rfl 7 rfl hb33 (by decide) rfl ?_
      refine a_goto (tgt := 15) ho dX7_leadOf_36 rfl ?_
      exact a_sub [2, 3, 4, 5, 6, 7, 1, 0] rfl (ih _ _ _ _ _ _ h)
theorem T_X7_leadOf_0 {G : gM} (ho : gOk G "WaxCloth$Rounds" cX7_leadOf 6 (some .int) 9) {r0 : Int32} (hr0 : gv0 G = some (.int r0)) {σ : gS} (hs0 : gs0 G = σ) {c2 : Nat} (hc2 : isI c2 20) {x1 : Int32} {x3 : Int32} {x4 : Int32} (h : F_X7_leadOf_0 c2 x1 x3 x4 σ = some r0) : gAt G 0 [(0, .ref (gad G 10)), (1, .int x1), (2, .ref (gad G c2)), (3, .int x3), (4, .int x4)] [] σ := by
  unfold F_X7_leadOf_0 at h
  refine a_aload_n ho dX7_leadOf_0 rfl rfl 0 rfl ?_
  refine a_getR (q := 13) ho fl_X7_40 o_10 (fr_2_6 _ o_10) dX7_leadOf_1 rfl ?_
  refine a_iload_n ho dX7_leadOf_4 rfl rfl 1 rfl ?_
  obtain ⟨hk5, h⟩ := ck_el h
  refine a_iald ho i_13 hk5 dX7_leadOf_5 rfl ?_
  obtain ⟨x6, hb6, h⟩ := bd_el h
  refine a_nmI hb6 ?_
  refine a_istore (L' := [(5, .int x6), (0, .ref (gad G 10)), (1, .int x1), (2, .ref (gad G c2)), (3, .int x3), (4, .int x4)]) ho dX7_leadOf_6 rfl (by decide) rfl ?_
  refine a_iload ho dX7_leadOf_8 rfl 0 rfl ?_
  refine a_istore (L' := [(6, .int x6), (5, .int x6), (0, .ref (gad G 10)), (1, .int x1), (2, .ref (gad G c2)), (3, .int x3), (4, .int x4)]) ho dX7_leadOf_10 rfl (by decide) rfl ?_
  refine a_iconst (v := 0) ho dX7_leadOf_12 rfl (by decide) ?_
  refine a_istore (L' := [(7, .int 0), (6, .int x6), (5, .int x6), (0, .ref (gad G 10)), (1, .int x1), (2, .ref (gad G c2)), (3, .int x3), (4, .int x4)]) ho dX7_leadOf_13 rfl (by decide) rfl ?_
  exact a_sub [3, 4, 5, 6, 7, 2, 1, 0] rfl (T_X7_leadOf_15 ho hr0 hs0 hc2 _ _ _ _ _ _ _ h)
theorem C_X7_leadOf {l : Launch} {X : gX} {σ : gS} {r0 : Int32} {c2 : Nat} (hc2 : isI c2 20) {a1 : Int32} {a3 : Int32} {a4 : Int32} (h : F_X7_leadOf_0 c2 a1 a3 a4 σ = some r0) : gCt l X yX7_leadOf (.code yX7_leadOf cX7_leadOf 9 (some .int)) 6 [.ref (X.2.2.1 10), .int a1, .ref (X.2.2.1 c2), .int a3, .int a4] σ (some (.int r0)) σ :=
  gCt_of cX7_leadOf (by decide) (Nat.le_of_ble_eq_true rfl) (fun G hl hX hv hs ho => by subst hl; subst hX; exact a_sub [0, 1, 2, 3, 4] rfl (T_X7_leadOf_0 ho hv hs hc2 h))
theorem T_X7_measure_13 {G : gM} (ho : gOk G "WaxCloth$Rounds" cX7_measure 7 none 7) (hr0 : gv0 G = none) {σ0 : gS} (hs0 : gs0 G = σ0) {c2 : Nat} (hc2 : isI c2 20) : ∀ (n : Nat) (x3 : Int32) (x4 : Int32) (σ : gS), F_X7_measure_13 c2 n x3 x4 σ = some σ0 → gAt G 13 [(0, .ref (gad G 80)), (1, .ref (gad G 10)), (2, .ref (gad G c2)), (3, .int x3), (4, .int x4)] [] σ := by
  intro n
  induction n with
  | zero => intro x3 x4 σ h; cases h
  | succ n ih =>
    intro x3 x4 σ h
    unfold F_X7_measure_13 at h
    refine a_iload ho dX7_measure_13 rfl 4 rfl ?_
    refine a_aload_n ho dX7_measure_15 rfl rfl 1 rfl ?_
    refine a_getI ho fl_X7_16 o_10 (ff_2_0 _ o_10) dX7_measure_16 rfl ?_
    refine a_icmp_ge (tgt := 84) ho dX7_measure_19 rfl rfl (fun hc19 => ?_) (fun hc19 => ?_)
    · replace h := if_t hc19 h
      exact a_vret ho dX7_measure_84 hr0 (rS hs0 (ro_el h))
    · replace h := if_f hc19 h
      refine a_aload_n ho dX7_measure_22 rfl rfl 1 rfl ?_
      refine a_iload ho dX7_measure_23 rfl 4 rfl ?_
      refine a_aload_n ho dX7_measure_25 rfl rfl 2 rfl ?_
      refine a_iload_n ho dX7_measure_26 rfl rfl 3 rfl ?_
      obtain ⟨r27, hq27, h⟩ := ob_el h
      refine a_callSi ho vy_X7_lapOf ml_X7_21 (C_X7_lapOf hc2 hq27) rfl rfl (by decide) (Nat.le_of_ble_eq_true rfl) dX7_measure_27 rfl ?_
      refine a_istore (L' := [(5, .int r27), (0, .ref (gad G 80)), (1, .ref (gad G 10)), (2, .ref (gad G c2)), (3, .int x3), (4, .int x4)]) ho dX7_measure_30 rfl (by decide) rfl ?_
      refine a_aload_n ho dX7_measure_32 rfl rfl 2 rfl ?_
      refine a_iload ho dX7_measure_33 rfl 5 rfl ?_
      refine a_aload_n ho dX7_measure_35 rfl rfl 3 rfl ?_
      refine a_iload_n ho dX7_measure_36 rfl rfl 4 rfl ?_
      refine a_iload ho dX7_measure_37 rfl 0 rfl ?_
      obtain ⟨r39, hq39, h⟩ := ob_el h
      refine a_callSi ho vy_X7_leadOf ml_X7_25 (C_X7_leadOf hc2 hq39) rfl rfl (by decide) (Nat.le_of_ble_eq_true rfl) dX7_measure_39 rfl ?_
      refine a_istore (L' := [(6, .int r39), (5, .int r27), (0, .ref (gad G 80)), (1, .ref (gad G 10)), (2, .ref (gad G c2)), (3, .int x3), (4, .int x4)]) ho dX7_measure_42 rfl (by decide) rfl ?_
      refine a_aload_n ho dX7_measure_44 rfl rfl 2 rfl ?_
      refine a_aload_n ho dX7_measure_45 rfl rfl 2 rfl ?_
      refine a_getI ho fl_X7_7 o_80 (ff_6_0 _ o_80) dX7_measure_46 rfl ?_
      refine a_iload ho dX7_measure_49 rfl 0 rfl ?_
      refine a_max ho mx_X7_29 (by decide) (Nat.le_of_ble_eq_true rfl) dX7_measure_51 rfl ?_
      refine a_putI ho fp_X7_7 o_80 (ff_6_0 _ o_80) dX7_measure_54 rfl ?_
      obtain ⟨σ54, hs54, h⟩ := bd_el h
      refine a_nmS hs54 ?_
      refine a_aload_n ho dX7_measure_57 rfl rfl 2 rfl ?_
      refine a_aload_n ho dX7_measure_58 rfl rfl 2 rfl ?_
      refine a_getI ho fl_X7_13 o_80 (ff_6_1 _ o_80) dX7_measure_59 rfl ?_
      refine a_iload ho dX7_measure_62 rfl 1 rfl ?_
      refine a_aload_n ho dX7_measure_64 rfl rfl 2 rfl ?_
      refine a_getI ho fl_X7_13 o_80 (ff_6_1 _ o_80) dX7_measure_65 rfl ?_
      obtain ⟨r68, hq68, h⟩ := ob_el h
      refine a_callSi ho vy_X1_greatestCommon ml_X7_35 (C_X1_greatestCommon hq68) rfl rfl (by decide) (Nat.le_of_ble_eq_true rfl) dX7_measure_68 rfl ?_
      obtain ⟨hk71, h⟩ := ck_el h
      refine a_idiv ho dX7_measure_71 rfl hk71 ?_
      refine a_iload ho dX7_measure_72 rfl 1 rfl ?_
      refine a_imul ho dX7_measure_74 rfl ?_
      refine a_putI ho fp_X7_13 o_80 (ff_6_1 _ o_80) dX7_measure_75 rfl ?_
      obtain ⟨σ75, hs75, h⟩ := bd_el h
      refine a_nmS hs75 ?_
      obtain ⟨x78, hb78, h⟩ := bd_el h
      refine a_iinc (L' := [(4, .int x78), (6, .int r39), (5, .int r27), (0, .ref (gad G 80)), (1, .ref (gad G 10)), (2, .ref (gad G c2)), (3, .int x3)]) ho dX7_measure_78 rfl 6 rfl hb78 (by decide) rfl ?_
      refine a_goto (tgt := 13) ho dX7_measure_81 rfl ?_
      exact a_sub [3, 4, 5, 6, 0] rfl (ih _ _ _ h)
theorem T_X7_measure_0 {G : gM} (ho : gOk G "WaxCloth$Rounds" cX7_measure 7 none 7) (hr0 : gv0 G = none) {σ0 : gS} (hs0 : gs0 G = σ0) {c2 : Nat} (hc2 : isI c2 20) {x3 : Int32} {σ : gS} (h : F_X7_measure_0 c2 x3 σ = some σ0) : gAt G 0 [(0, .ref (gad G 80)), (1, .ref (gad G 10)), (2, .ref (gad G c2)), (3, .int x3)] [] σ := by
  unfold F_X7_measure_0 at h
  refine a_aload_n ho dX7_measure_0 rfl rfl 0 rfl ?_
  refine a_iconst (v := 0) ho dX7_measure_1 rfl (by decide) ?_
  refine a_putI ho fp_X7_7 o_80 (ff_6_0 _ o_80) dX7_measure_2 rfl ?_
  obtain ⟨σ2, hs2, h⟩ := bd_el h
  refine a_nmS hs2 ?_
  refine a_aload_n ho dX7_measure_5 rfl rfl 0 rfl ?_
  refine a_iconst (v := 1) ho dX7_measure_6 rfl (by decide) ?_
  refine a_putI ho fp_X7_13 o_80 (ff_6_1 _ o_80) dX7_measure_7 rfl ?_
  obtain ⟨σ7, hs7, h⟩ := bd_el h
  refine a_nmS hs7 ?_
  refine a_iconst (v := 0) ho dX7_measure_10 rfl (by decide) ?_
  refine a_istore (L' := [(4, .int 0), (0, .ref (gad G 80)), (1, .ref (gad G 10)), (2, .ref (gad G c2)), (3, .int x3)]) ho dX7_measure_11 rfl (by decide) rfl ?_
  exact a_sub [1, 2, 3, 4, 0] rfl (T_X7_measure_13 ho hr0 hs0 hc2 _ _ _ _ h)
theorem C_X7_measure {l : Launch} {X : gX} {σ σ0 : gS} {c2 : Nat} (hc2 : isI c2 20) {a3 : Int32} (h : F_X7_measure_0 c2 a3 σ = some σ0) : gCt l X yX7_measure (.code yX7_measure cX7_measure 7 none) 7 [.ref (X.2.2.1 80), .ref (X.2.2.1 10), .ref (X.2.2.1 c2), .int a3] σ (none) σ0 :=
  gCt_of cX7_measure (by decide) (Nat.le_of_ble_eq_true rfl) (fun G hl hX hv hs ho => by subst hl; subst hX; exact a_sub [0, 1, 2, 3] rfl (T_X7_measure_0 ho hv hs hc2 h))
theorem T_X8_isLane_0 {G : gM} (ho : gOk G "WaxCloth$Sheet" cX8_isLane 1 (some .boolean) 1) {r0 : Int32} (hr0 : gv0 G = some (.int r0)) {σ : gS} (hs0 : gs0 G = σ) {x0 : Int32} (h : F_X8_isLane_0 x0 = r0) : gAt G 0 [(0, .int x0)] [] σ := by
  unfold F_X8_isLane_0 at h
  refine a_iload_n ho dX8_isLane_0 rfl rfl 0 rfl ?_
  refine a_if_lt (tgt := 13) ho dX8_isLane_1 rfl rfl (fun hc1 => ?_) (fun hc1 => ?_)
  · replace h := if_t hc1 h
    refine a_iconst (v := 0) ho dX8_isLane_13 rfl (by decide) ?_
    exact a_zret ho dX8_isLane_14 rfl (rI hr0 h) hs0
  · replace h := if_f hc1 h
    refine a_iload_n ho dX8_isLane_4 rfl rfl 0 rfl ?_
    refine a_iconst (v := 3) ho dX8_isLane_5 rfl (by decide) ?_
    refine a_icmp_gt (tgt := 13) ho dX8_isLane_6 rfl rfl (fun hc6 => ?_) (fun hc6 => ?_)
    · replace h := if_t hc6 h
      refine a_iconst (v := 0) ho dX8_isLane_13 rfl (by decide) ?_
      exact a_zret ho dX8_isLane_14 rfl (rI hr0 h) hs0
    · replace h := if_f hc6 h
      refine a_iconst (v := 1) ho dX8_isLane_9 rfl (by decide) ?_
      refine a_goto (tgt := 14) ho dX8_isLane_10 rfl ?_
      exact a_zret ho dX8_isLane_14 rfl (rI hr0 h) hs0
theorem C_X8_isLane {l : Launch} {X : gX} {σ : gS} (a0 : Int32) : gCt l X yX8_isLane (.code yX8_isLane cX8_isLane 1 (some .boolean)) 1 [.int a0] σ (some (.int (F_X8_isLane_0 a0))) σ :=
  gCt_of cX8_isLane (by decide) (Nat.le_of_ble_eq_true rfl) (fun G hl hX hv hs ho => by subst hl; subst hX; exact a_sub [0] rfl (T_X8_isLane_0 ho hv hs rfl))
theorem T_X8_isNothing_0 {G : gM} (ho : gOk G "WaxCloth$Sheet" cX8_isNothing 1 (some .boolean) 1) {r0 : Int32} (hr0 : gv0 G = some (.int r0)) {σ : gS} (hs0 : gs0 G = σ) {c0 : Nat} (hc0 : isO c0 7) (h : F_X8_isNothing_0 c0 σ = r0) : gAt G 0 [(0, .ref (gad G c0))] [] σ := by
  unfold F_X8_isNothing_0 at h
  refine a_aload_n ho dX8_isNothing_0 rfl rfl 0 rfl ?_
  refine a_getI ho fl_X8_11 hc0 (ff_7_0 _ hc0) dX8_isNothing_1 rfl ?_
  refine a_iconst (v := (-1)) ho dX8_isNothing_4 rfl (by decide) ?_
  refine a_icmp_ne (tgt := 12) ho dX8_isNothing_5 rfl rfl (fun hc5 => ?_) (fun hc5 => ?_)
  · replace h := if_f hc5 h
    refine a_iconst (v := 0) ho dX8_isNothing_12 rfl (by decide) ?_
    exact a_zret ho dX8_isNothing_13 rfl (rI hr0 h) hs0
  · replace h := if_t hc5 h
    refine a_iconst (v := 1) ho dX8_isNothing_8 rfl (by decide) ?_
    refine a_goto (tgt := 13) ho dX8_isNothing_9 rfl ?_
    exact a_zret ho dX8_isNothing_13 rfl (rI hr0 h) hs0
theorem C_X8_isNothing {l : Launch} {X : gX} {σ : gS} {c0 : Nat} (hc0 : isO c0 7) : gCt l X yX8_isNothing (.code yX8_isNothing cX8_isNothing 1 (some .boolean)) 1 [.ref (X.2.2.1 c0)] σ (some (.int (F_X8_isNothing_0 c0 σ))) σ :=
  gCt_of cX8_isNothing (by decide) (Nat.le_of_ble_eq_true rfl) (fun G hl hX hv hs ho => by subst hl; subst hX; exact a_sub [0] rfl (T_X8_isNothing_0 ho hv hs hc0 rfl))
theorem T_X8_begin_12 {G : gM} (ho : gOk G "WaxCloth$Sheet" cX8_begin 1 none 4) (hr0 : gv0 G = none) {σ0 : gS} (hs0 : gs0 G = σ0) {c0 : Nat} (hc0 : isO c0 7) : ∀ (n : Nat) (x3 : Int32) (σ : gS), F_X8_begin_12 c0 n x3 σ = some σ0 → gAt G 12 [(0, .ref (gad G c0)), (3, .int x3)] [] σ := by
  intro n
  induction n with
  | zero => intro x3 σ h; cases h
  | succ n ih =>
    intro x3 σ h
    unfold F_X8_begin_12 at h
    refine a_iload_n ho dX8_begin_12 rfl rfl 1 rfl ?_
    refine a_bipush (v := 24) ho dX8_begin_13 rfl (by decide) ?_
    refine a_icmp_ge (tgt := 31) ho dX8_begin_15 rfl rfl (fun hc15 => ?_) (fun hc15 => ?_)
    · replace h := if_t hc15 h
      exact a_vret ho dX8_begin_31 hr0 (rS hs0 (ro_el h))
    · replace h := if_f hc15 h
      refine a_aload_n ho dX8_begin_18 rfl rfl 0 rfl ?_
      refine a_getR ho fl_X8_15 hc0 (fr_7_2 _ hc0) dX8_begin_19 rfl ?_
      refine a_iload_n ho dX8_begin_22 rfl rfl 1 rfl ?_
      refine a_lconst (v := 0) ho dX8_begin_23 rfl (by decide) ?_
      obtain ⟨hk24, h⟩ := ck_el h
      refine a_last ho (fa_7_2 _ hc0) hk24 dX8_begin_24 rfl ?_
      obtain ⟨σ24, hs24, h⟩ := bd_el h
      refine a_nmS hs24 ?_
      obtain ⟨x25, hb25, h⟩ := bd_el h
      refine a_iinc (L' := [(3, .int x25), (0, .ref (gad G c0))]) ho dX8_begin_25 rfl 1 rfl hb25 (by decide) rfl ?_
      refine a_goto (tgt := 12) ho dX8_begin_28 rfl ?_
      exact a_sub [1, 0] rfl (ih _ _ h)
theorem T_X8_begin_0 {G : gM} (ho : gOk G "WaxCloth$Sheet" cX8_begin 1 none 4) (hr0 : gv0 G = none) {σ0 : gS} (hs0 : gs0 G = σ0) {c0 : Nat} (hc0 : isO c0 7) {x1 : Int32} {x2 : Int32} {σ : gS} (h : F_X8_begin_0 c0 x1 x2 σ = some σ0) : gAt G 0 [(0, .ref (gad G c0)), (1, .int x1), (2, .int x2)] [] σ := by
  unfold F_X8_begin_0 at h
  refine a_aload_n ho dX8_begin_0 rfl rfl 0 rfl ?_
  refine a_iload_n ho dX8_begin_1 rfl rfl 1 rfl ?_
  refine a_putI ho fp_X8_11 hc0 (ff_7_0 _ hc0) dX8_begin_2 rfl ?_
  obtain ⟨σ2, hs2, h⟩ := bd_el h
  refine a_nmS hs2 ?_
  refine a_aload_n ho dX8_begin_5 rfl rfl 0 rfl ?_
  refine a_iload_n ho dX8_begin_6 rfl rfl 2 rfl ?_
  refine a_putI ho fp_X8_19 hc0 (ff_7_1 _ hc0) dX8_begin_7 rfl ?_
  obtain ⟨σ7, hs7, h⟩ := bd_el h
  refine a_nmS hs7 ?_
  refine a_iconst (v := 0) ho dX8_begin_10 rfl (by decide) ?_
  refine a_istore_n (L' := [(3, .int 0), (0, .ref (gad G c0)), (1, .int x1), (2, .int x2)]) ho dX8_begin_11 rfl rfl (by decide) rfl ?_
  exact a_sub [1, 0] rfl (T_X8_begin_12 ho hr0 hs0 hc0 _ _ _ h)
theorem C_X8_begin {l : Launch} {X : gX} {σ σ0 : gS} {c0 : Nat} (hc0 : isO c0 7) {a1 : Int32} {a2 : Int32} (h : F_X8_begin_0 c0 a1 a2 σ = some σ0) : gCt l X yX8_begin (.code yX8_begin cX8_begin 4 none) 1 [.ref (X.2.2.1 c0), .int a1, .int a2] σ (none) σ0 :=
  gCt_of cX8_begin (by decide) (Nat.le_of_ble_eq_true rfl) (fun G hl hX hv hs ho => by subst hl; subst hX; exact a_sub [0, 1, 2] rfl (T_X8_begin_0 ho hv hs hc0 h))
theorem T_X8_end_0 {G : gM} (ho : gOk G "WaxCloth$Sheet" cX8_end 1 (some .int) 1) {r0 : Int32} (hr0 : gv0 G = some (.int r0)) {σ0 : gS} (hs0 : gs0 G = σ0) {c0 : Nat} (hc0 : isO c0 7) {σ : gS} (h : F_X8_end_0 c0 σ = some (r0, σ0)) : gAt G 0 [(0, .ref (gad G c0))] [] σ := by
  unfold F_X8_end_0 at h
  refine a_aload_n ho dX8_end_0 rfl rfl 0 rfl ?_
  refine a_iconst (v := (-1)) ho dX8_end_1 rfl (by decide) ?_
  refine a_putI ho fp_X8_11 hc0 (ff_7_0 _ hc0) dX8_end_2 rfl ?_
  obtain ⟨σ2, hs2, h⟩ := bd_el h
  refine a_nmS hs2 ?_
  refine a_aload_n ho dX8_end_5 rfl rfl 0 rfl ?_
  refine a_getI ho fl_X8_19 hc0 (ff_7_1 _ hc0) dX8_end_6 rfl ?_
  exact a_iret ho dX8_end_9 (rI hr0 (re_el h).1) (rS hs0 (re_el h).2)
theorem C_X8_end {l : Launch} {X : gX} {σ σ0 : gS} {r0 : Int32} {c0 : Nat} (hc0 : isO c0 7) (h : F_X8_end_0 c0 σ = some (r0, σ0)) : gCt l X yX8_end (.code yX8_end cX8_end 1 (some .int)) 1 [.ref (X.2.2.1 c0)] σ (some (.int r0)) σ0 :=
  gCt_of cX8_end (by decide) (Nat.le_of_ble_eq_true rfl) (fun G hl hX hv hs ho => by subst hl; subst hX; exact a_sub [0] rfl (T_X8_end_0 ho hv hs hc0 h))
theorem T_X8_holds_0 {G : gM} (ho : gOk G "WaxCloth$Sheet" cX8_holds 1 (some .boolean) 3) {r0 : Int32} (hr0 : gv0 G = some (.int r0)) {σ : gS} (hs0 : gs0 G = σ) {c0 : Nat} (hc0 : isO c0 7) {x1 : Int32} {x2 : Int32} (h : F_X8_holds_0 c0 x1 x2 σ = r0) : gAt G 0 [(0, .ref (gad G c0)), (1, .int x1), (2, .int x2)] [] σ := by
  unfold F_X8_holds_0 at h
  refine a_iload_n ho dX8_holds_0 rfl rfl 1 rfl ?_
  refine a_if_lt (tgt := 30) ho dX8_holds_1 rfl rfl (fun hc1 => ?_) (fun hc1 => ?_)
  · replace h := if_t hc1 h
    refine a_iconst (v := 0) ho dX8_holds_30 rfl (by decide) ?_
    exact a_zret ho dX8_holds_31 rfl (rI hr0 h) hs0
  · replace h := if_f hc1 h
    refine a_iload_n ho dX8_holds_4 rfl rfl 2 rfl ?_
    refine a_if_lt (tgt := 30) ho dX8_holds_5 rfl rfl (fun hc5 => ?_) (fun hc5 => ?_)
    · replace h := if_t hc5 h
      refine a_iconst (v := 0) ho dX8_holds_30 rfl (by decide) ?_
      exact a_zret ho dX8_holds_31 rfl (rI hr0 h) hs0
    · replace h := if_f hc5 h
      refine a_iload_n ho dX8_holds_8 rfl rfl 2 rfl ?_
      refine a_aload_n ho dX8_holds_9 rfl rfl 0 rfl ?_
      refine a_getI ho fl_X8_19 hc0 (ff_7_1 _ hc0) dX8_holds_10 rfl ?_
      refine a_icmp_gt (tgt := 30) ho dX8_holds_13 rfl rfl (fun hc13 => ?_) (fun hc13 => ?_)
      · replace h := if_t hc13 h
        refine a_iconst (v := 0) ho dX8_holds_30 rfl (by decide) ?_
        exact a_zret ho dX8_holds_31 rfl (rI hr0 h) hs0
      · replace h := if_f hc13 h
        refine a_iload_n ho dX8_holds_16 rfl rfl 1 rfl ?_
        refine a_aload_n ho dX8_holds_17 rfl rfl 0 rfl ?_
        refine a_getI ho fl_X8_19 hc0 (ff_7_1 _ hc0) dX8_holds_18 rfl ?_
        refine a_iload_n ho dX8_holds_21 rfl rfl 2 rfl ?_
        refine a_isub ho dX8_holds_22 rfl ?_
        refine a_icmp_gt (tgt := 30) ho dX8_holds_23 rfl rfl (fun hc23 => ?_) (fun hc23 => ?_)
        · replace h := if_t hc23 h
          refine a_iconst (v := 0) ho dX8_holds_30 rfl (by decide) ?_
          exact a_zret ho dX8_holds_31 rfl (rI hr0 h) hs0
        · replace h := if_f hc23 h
          refine a_iconst (v := 1) ho dX8_holds_26 rfl (by decide) ?_
          refine a_goto (tgt := 31) ho dX8_holds_27 rfl ?_
          exact a_zret ho dX8_holds_31 rfl (rI hr0 h) hs0
theorem C_X8_holds {l : Launch} {X : gX} {σ : gS} {c0 : Nat} (hc0 : isO c0 7) (a1 : Int32) (a2 : Int32) : gCt l X yX8_holds (.code yX8_holds cX8_holds 3 (some .boolean)) 1 [.ref (X.2.2.1 c0), .int a1, .int a2] σ (some (.int (F_X8_holds_0 c0 a1 a2 σ))) σ :=
  gCt_of cX8_holds (by decide) (Nat.le_of_ble_eq_true rfl) (fun G hl hX hv hs ho => by subst hl; subst hX; exact a_sub [0, 1, 2] rfl (T_X8_holds_0 ho hv hs hc0 rfl))
theorem T_X8_refusal_0 {G : gM} (ho : gOk G "WaxCloth$Sheet" cX8_refusal 2 (some .int) 4) {r0 : Int32} (hr0 : gv0 G = some (.int r0)) {σ : gS} (hs0 : gs0 G = σ) {c0 : Nat} (hc0 : isO c0 7) {x1 : Int32} {x2 : Int32} {x3 : Int32} (h : F_X8_refusal_0 c0 x1 x2 x3 σ = r0) : gAt G 0 [(0, .ref (gad G c0)), (1, .int x1), (2, .int x2), (3, .int x3)] [] σ := by
  unfold F_X8_refusal_0 at h
  refine a_aload_n ho dX8_refusal_0 rfl rfl 0 rfl ?_
  refine a_callVi ho vy_X8_isNothing ml_X8_22 hc0 (C_X8_isNothing hc0) rfl rfl (by decide) (Nat.le_of_ble_eq_true rfl) dX8_refusal_1 rfl ?_
  refine a_if_eq (tgt := 10) ho dX8_refusal_4 rfl rfl (fun hc4 => ?_) (fun hc4 => ?_)
  · replace h := if_t hc4 h
    refine a_aload_n ho dX8_refusal_10 rfl rfl 0 rfl ?_
    refine a_getI ho fl_X8_11 hc0 (ff_7_0 _ hc0) dX8_refusal_11 rfl ?_
    refine a_iload_n ho dX8_refusal_14 rfl rfl 1 rfl ?_
    refine a_icmp_eq (tgt := 21) ho dX8_refusal_15 rfl rfl (fun hc15 => ?_) (fun hc15 => ?_)
    · replace h := if_t hc15 h
      refine a_aload_n ho dX8_refusal_21 rfl rfl 0 rfl ?_
      refine a_iload_n ho dX8_refusal_22 rfl rfl 2 rfl ?_
      refine a_iload_n ho dX8_refusal_23 rfl rfl 3 rfl ?_
      refine a_callVi ho vy_X8_holds ml_X8_26 hc0 (C_X8_holds hc0 x2 x3) rfl rfl (by decide) (Nat.le_of_ble_eq_true rfl) dX8_refusal_24 rfl ?_
      refine a_if_eq (tgt := 34) ho dX8_refusal_27 rfl rfl (fun hc27 => ?_) (fun hc27 => ?_)
      · replace h := if_t hc27 h
        refine a_bipush (v := (-13)) ho dX8_refusal_34 rfl (by decide) ?_
        exact a_iret ho dX8_refusal_36 (rI hr0 h) hs0
      · replace h := if_f hc27 h
        refine a_iconst (v := 0) ho dX8_refusal_30 rfl (by decide) ?_
        refine a_goto (tgt := 36) ho dX8_refusal_31 rfl ?_
        exact a_iret ho dX8_refusal_36 (rI hr0 h) hs0
    · replace h := if_f hc15 h
      refine a_bipush (v := (-12)) ho dX8_refusal_18 rfl (by decide) ?_
      exact a_iret ho dX8_refusal_20 (rI hr0 h) hs0
  · replace h := if_f hc4 h
    refine a_bipush (v := (-11)) ho dX8_refusal_7 rfl (by decide) ?_
    exact a_iret ho dX8_refusal_9 (rI hr0 h) hs0
theorem C_X8_refusal {l : Launch} {X : gX} {σ : gS} {c0 : Nat} (hc0 : isO c0 7) (a1 : Int32) (a2 : Int32) (a3 : Int32) : gCt l X yX8_refusal (.code yX8_refusal cX8_refusal 4 (some .int)) 2 [.ref (X.2.2.1 c0), .int a1, .int a2, .int a3] σ (some (.int (F_X8_refusal_0 c0 a1 a2 a3 σ))) σ :=
  gCt_of cX8_refusal (by decide) (Nat.le_of_ble_eq_true rfl) (fun G hl hX hv hs ho => by subst hl; subst hX; exact a_sub [0, 1, 2, 3] rfl (T_X8_refusal_0 ho hv hs hc0 rfl))
theorem T_X8_put_77 {G : gM} (ho : gOk G "WaxCloth$Sheet" cX8_put 1 (some .long) 4) {r0 : Int64} (hr0 : gv0 G = some (.long r0)) {σ0 : gS} (hs0 : gs0 G = σ0) {c0 : Nat} (hc0 : isO c0 7) {x1 : Int32} {σ : gS} (h : F_X8_put_77 c0 x1 σ = some (r0, σ0)) : gAt G 77 [(0, .ref (gad G c0)), (1, .int x1)] [] σ := by
  unfold F_X8_put_77 at h
  refine a_aload_n ho dX8_put_77 rfl rfl 0 rfl ?_
  refine a_getR ho fl_X8_15 hc0 (fr_7_2 _ hc0) dX8_put_78 rfl ?_
  refine a_iload_n ho dX8_put_81 rfl rfl 1 rfl ?_
  obtain ⟨hk82, h⟩ := ck_el h
  refine a_lald ho (fa_7_2 _ hc0) hk82 dX8_put_82 rfl ?_
  exact a_lret ho dX8_put_83 (rL hr0 (re_el h).1) (rS hs0 (re_el h).2)
theorem T_X8_put_0 {G : gM} (ho : gOk G "WaxCloth$Sheet" cX8_put 1 (some .long) 4) {r0 : Int64} (hr0 : gv0 G = some (.long r0)) {σ0 : gS} (hs0 : gs0 G = σ0) {c0 : Nat} (hc0 : isO c0 7) {x1 : Int32} {x2 : Int64} {σ : gS} (h : F_X8_put_0 c0 x1 x2 σ = some (r0, σ0)) : gAt G 0 [(0, .ref (gad G c0)), (1, .int x1), (2, .long x2)] [] σ := by
  unfold F_X8_put_0 at h
  refine a_aload_n ho dX8_put_0 rfl rfl 0 rfl ?_
  refine a_getI ho fl_X8_11 hc0 (ff_7_0 _ hc0) dX8_put_1 rfl ?_
  obtain ⟨w4, hb4, h⟩ := bd_el h
  refine a_nmI hb4 ?_
  by_cases hw4_0 : w4 = 0
  · replace h := if_t hw4_0 h
    refine a_tin (tgt := 32) ho 0 hw4_0 dX8_put_4 (by decide) (by decide) rfl rfl ?_
    refine a_aload_n ho dX8_put_32 rfl rfl 0 rfl ?_
    refine a_getR ho fl_X8_15 hc0 (fr_7_2 _ hc0) dX8_put_33 rfl ?_
    refine a_iload_n ho dX8_put_36 rfl rfl 1 rfl ?_
    refine a_lload_n ho dX8_put_37 rfl rfl 2 rfl ?_
    refine a_l2i ho dX8_put_38 rfl ?_
    refine a_i2b ho dX8_put_39 rfl ?_
    refine a_i2l ho dX8_put_40 rfl ?_
    obtain ⟨hk41, h⟩ := ck_el h
    refine a_last ho (fa_7_2 _ hc0) hk41 dX8_put_41 rfl ?_
    obtain ⟨σ41, hs41, h⟩ := bd_el h
    refine a_nmS hs41 ?_
    refine a_goto (tgt := 77) ho dX8_put_42 rfl ?_
    exact a_sub [0, 1] rfl (T_X8_put_77 ho hr0 hs0 hc0 h)
  replace h := if_f hw4_0 h
  by_cases hw4_1 : w4 = 1
  · replace h := if_t hw4_1 h
    refine a_tin (tgt := 45) ho 1 hw4_1 dX8_put_4 (by decide) (by decide) rfl rfl ?_
    refine a_aload_n ho dX8_put_45 rfl rfl 0 rfl ?_
    refine a_getR ho fl_X8_15 hc0 (fr_7_2 _ hc0) dX8_put_46 rfl ?_
    refine a_iload_n ho dX8_put_49 rfl rfl 1 rfl ?_
    refine a_lload_n ho dX8_put_50 rfl rfl 2 rfl ?_
    refine a_l2i ho dX8_put_51 rfl ?_
    refine a_i2s ho dX8_put_52 rfl ?_
    refine a_i2l ho dX8_put_53 rfl ?_
    obtain ⟨hk54, h⟩ := ck_el h
    refine a_last ho (fa_7_2 _ hc0) hk54 dX8_put_54 rfl ?_
    obtain ⟨σ54, hs54, h⟩ := bd_el h
    refine a_nmS hs54 ?_
    refine a_goto (tgt := 77) ho dX8_put_55 rfl ?_
    exact a_sub [0, 1] rfl (T_X8_put_77 ho hr0 hs0 hc0 h)
  replace h := if_f hw4_1 h
  by_cases hw4_2 : w4 = 2
  · replace h := if_t hw4_2 h
    refine a_tin (tgt := 58) ho 2 hw4_2 dX8_put_4 (by decide) (by decide) rfl rfl ?_
    refine a_aload_n ho dX8_put_58 rfl rfl 0 rfl ?_
    refine a_getR ho fl_X8_15 hc0 (fr_7_2 _ hc0) dX8_put_59 rfl ?_
    refine a_iload_n ho dX8_put_62 rfl rfl 1 rfl ?_
    refine a_lload_n ho dX8_put_63 rfl rfl 2 rfl ?_
    refine a_l2i ho dX8_put_64 rfl ?_
    refine a_i2l ho dX8_put_65 rfl ?_
    obtain ⟨hk66, h⟩ := ck_el h
    refine a_last ho (fa_7_2 _ hc0) hk66 dX8_put_66 rfl ?_
    obtain ⟨σ66, hs66, h⟩ := bd_el h
    refine a_nmS hs66 ?_
    refine a_goto (tgt := 77) ho dX8_put_67 rfl ?_
    exact a_sub [0, 1] rfl (T_X8_put_77 ho hr0 hs0 hc0 h)
  replace h := if_f hw4_2 h
  refine a_tout (tgt := 70) ho (by have q0 := tI hw4_0 (z := 0) rfl; have q1 := tI hw4_1 (z := 1) rfl; have q2 := tI hw4_2 (z := 2) rfl; omega) dX8_put_4 rfl ?_
  refine a_aload_n ho dX8_put_70 rfl rfl 0 rfl ?_
  refine a_getR ho fl_X8_15 hc0 (fr_7_2 _ hc0) dX8_put_71 rfl ?_
  refine a_iload_n ho dX8_put_74 rfl rfl 1 rfl ?_
  refine a_lload_n ho dX8_put_75 rfl rfl 2 rfl ?_
  obtain ⟨hk76, h⟩ := ck_el h
  refine a_last ho (fa_7_2 _ hc0) hk76 dX8_put_76 rfl ?_
  obtain ⟨σ76, hs76, h⟩ := bd_el h
  refine a_nmS hs76 ?_
  exact a_sub [0, 1] rfl (T_X8_put_77 ho hr0 hs0 hc0 h)
theorem C_X8_put {l : Launch} {X : gX} {σ σ0 : gS} {r0 : Int64} {c0 : Nat} (hc0 : isO c0 7) {a1 : Int32} {a2 : Int64} (h : F_X8_put_0 c0 a1 a2 σ = some (r0, σ0)) : gCt l X yX8_put (.code yX8_put cX8_put 4 (some .long)) 1 [.ref (X.2.2.1 c0), .int a1, .long a2] σ (some (.long r0)) σ0 :=
  gCt_of cX8_put (by decide) (Nat.le_of_ble_eq_true rfl) (fun G hl hX hv hs ho => by subst hl; subst hX; exact a_sub [0, 1, 2] rfl (T_X8_put_0 ho hv hs hc0 h))
theorem T_X9_isColour_0 {G : gM} (ho : gOk G "WaxCloth$State" cX9_isColour 1 (some .boolean) 1) {r0 : Int32} (hr0 : gv0 G = some (.int r0)) {σ : gS} (hs0 : gs0 G = σ) {x0 : Int32} (h : F_X9_isColour_0 x0 = r0) : gAt G 0 [(0, .int x0)] [] σ := by
  unfold F_X9_isColour_0 at h
  refine a_iload_n ho dX9_isColour_0 rfl rfl 0 rfl ?_
  refine a_if_lt (tgt := 13) ho dX9_isColour_1 rfl rfl (fun hc1 => ?_) (fun hc1 => ?_)
  · replace h := if_t hc1 h
    refine a_iconst (v := 0) ho dX9_isColour_13 rfl (by decide) ?_
    exact a_zret ho dX9_isColour_14 rfl (rI hr0 h) hs0
  · replace h := if_f hc1 h
    refine a_iload_n ho dX9_isColour_4 rfl rfl 0 rfl ?_
    refine a_iconst (v := 3) ho dX9_isColour_5 rfl (by decide) ?_
    refine a_icmp_ge (tgt := 13) ho dX9_isColour_6 rfl rfl (fun hc6 => ?_) (fun hc6 => ?_)
    · replace h := if_t hc6 h
      refine a_iconst (v := 0) ho dX9_isColour_13 rfl (by decide) ?_
      exact a_zret ho dX9_isColour_14 rfl (rI hr0 h) hs0
    · replace h := if_f hc6 h
      refine a_iconst (v := 1) ho dX9_isColour_9 rfl (by decide) ?_
      refine a_goto (tgt := 14) ho dX9_isColour_10 rfl ?_
      exact a_zret ho dX9_isColour_14 rfl (rI hr0 h) hs0
theorem C_X9_isColour {l : Launch} {X : gX} {σ : gS} (a0 : Int32) : gCt l X yX9_isColour (.code yX9_isColour cX9_isColour 1 (some .boolean)) 1 [.int a0] σ (some (.int (F_X9_isColour_0 a0))) σ :=
  gCt_of cX9_isColour (by decide) (Nat.le_of_ble_eq_true rfl) (fun G hl hX hv hs ho => by subst hl; subst hX; exact a_sub [0] rfl (T_X9_isColour_0 ho hv hs rfl))
theorem T_X9_isAmount_0 {G : gM} (ho : gOk G "WaxCloth$State" cX9_isAmount 1 (some .boolean) 1) {r0 : Int32} (hr0 : gv0 G = some (.int r0)) {σ : gS} (hs0 : gs0 G = σ) {x0 : Int32} (h : F_X9_isAmount_0 x0 = r0) : gAt G 0 [(0, .int x0)] [] σ := by
  unfold F_X9_isAmount_0 at h
  refine a_iload_n ho dX9_isAmount_0 rfl rfl 0 rfl ?_
  refine a_if_lt (tgt := 14) ho dX9_isAmount_1 rfl rfl (fun hc1 => ?_) (fun hc1 => ?_)
  · replace h := if_t hc1 h
    refine a_iconst (v := 0) ho dX9_isAmount_14 rfl (by decide) ?_
    exact a_zret ho dX9_isAmount_15 rfl (rI hr0 h) hs0
  · replace h := if_f hc1 h
    refine a_iload_n ho dX9_isAmount_4 rfl rfl 0 rfl ?_
    refine a_bipush (v := 9) ho dX9_isAmount_5 rfl (by decide) ?_
    refine a_icmp_gt (tgt := 14) ho dX9_isAmount_7 rfl rfl (fun hc7 => ?_) (fun hc7 => ?_)
    · replace h := if_t hc7 h
      refine a_iconst (v := 0) ho dX9_isAmount_14 rfl (by decide) ?_
      exact a_zret ho dX9_isAmount_15 rfl (rI hr0 h) hs0
    · replace h := if_f hc7 h
      refine a_iconst (v := 1) ho dX9_isAmount_10 rfl (by decide) ?_
      refine a_goto (tgt := 15) ho dX9_isAmount_11 rfl ?_
      exact a_zret ho dX9_isAmount_15 rfl (rI hr0 h) hs0
theorem C_X9_isAmount {l : Launch} {X : gX} {σ : gS} (a0 : Int32) : gCt l X yX9_isAmount (.code yX9_isAmount cX9_isAmount 1 (some .boolean)) 1 [.int a0] σ (some (.int (F_X9_isAmount_0 a0))) σ :=
  gCt_of cX9_isAmount (by decide) (Nat.le_of_ble_eq_true rfl) (fun G hl hX hv hs ho => by subst hl; subst hX; exact a_sub [0] rfl (T_X9_isAmount_0 ho hv hs rfl))
theorem T_X9_ofShade_0 {G : gM} (ho : gOk G "WaxCloth$State" cX9_ofShade 1 (some .int) 3) {r0 : Int32} (hr0 : gv0 G = some (.int r0)) {σ : gS} (hs0 : gs0 G = σ) {x0 : Int32} {x1 : Int32} {x2 : Int32} (h : F_X9_ofShade_0 x0 x1 x2 = r0) : gAt G 0 [(0, .int x0), (1, .int x1), (2, .int x2)] [] σ := by
  unfold F_X9_ofShade_0 at h
  refine a_iload_n ho dX9_ofShade_0 rfl rfl 0 rfl ?_
  refine a_iload_n ho dX9_ofShade_1 rfl rfl 1 rfl ?_
  refine a_iconst (v := 4) ho dX9_ofShade_2 rfl (by decide) ?_
  refine a_ishl ho dX9_ofShade_3 rfl ?_
  refine a_ior ho dX9_ofShade_4 rfl ?_
  refine a_iload_n ho dX9_ofShade_5 rfl rfl 2 rfl ?_
  refine a_bipush (v := 8) ho dX9_ofShade_6 rfl (by decide) ?_
  refine a_ishl ho dX9_ofShade_8 rfl ?_
  refine a_ior ho dX9_ofShade_9 rfl ?_
  exact a_iret ho dX9_ofShade_10 (rI hr0 h) hs0
theorem C_X9_ofShade {l : Launch} {X : gX} {σ : gS} (a0 : Int32) (a1 : Int32) (a2 : Int32) : gCt l X yX9_ofShade (.code yX9_ofShade cX9_ofShade 3 (some .int)) 1 [.int a0, .int a1, .int a2] σ (some (.int (F_X9_ofShade_0 a0 a1 a2))) σ :=
  gCt_of cX9_ofShade (by decide) (Nat.le_of_ble_eq_true rfl) (fun G hl hX hv hs ho => by subst hl; subst hX; exact a_sub [0, 1, 2] rfl (T_X9_ofShade_0 ho hv hs rfl))
theorem T_X10_put_0 {G : gM} (ho : gOk G "WaxCloth$Tape" cX10_put 1 (some .boolean) 2) {r0 : Int32} (hr0 : gv0 G = some (.int r0)) {σ0 : gS} (hs0 : gs0 G = σ0) {x1 : Int32} {σ : gS} (h : F_X10_put_0 x1 σ = some (r0, σ0)) : gAt G 0 [(0, .ref (gad G 1)), (1, .int x1)] [] σ := by
  unfold F_X10_put_0 at h
  refine a_aload_n ho dX10_put_0 rfl rfl 0 rfl ?_
  refine a_getI ho fl_X10_13 o_1 (ff_8_0 _ o_1) dX10_put_1 rfl ?_
  refine a_bipush (v := 80) ho dX10_put_4 rfl (by decide) ?_
  refine a_icmp_lt (tgt := 11) ho dX10_put_6 rfl rfl (fun hc6 => ?_) (fun hc6 => ?_)
  · replace h := if_t hc6 h
    refine a_aload_n ho dX10_put_11 rfl rfl 0 rfl ?_
    refine a_getR ho fl_X10_9 o_1 fr_8_1 dX10_put_12 rfl ?_
    refine a_aload_n ho dX10_put_15 rfl rfl 0 rfl ?_
    refine a_dup ho dX10_put_16 rfl rfl ?_
    refine a_getI ho fl_X10_13 o_1 (ff_8_0 _ o_1) dX10_put_17 rfl ?_
    obtain ⟨d20, hb20, h⟩ := bd_el h
    refine a_nmI hb20 ?_
    refine a_dup_x1 ho dX10_put_20 rfl rfl rfl ?_
    refine a_iconst (v := 1) ho dX10_put_21 rfl (by decide) ?_
    refine a_iadd ho dX10_put_22 rfl ?_
    refine a_putI ho fp_X10_13 o_1 (ff_8_0 _ o_1) dX10_put_23 rfl ?_
    obtain ⟨σ23, hs23, h⟩ := bd_el h
    refine a_nmS hs23 ?_
    refine a_iload_n ho dX10_put_26 rfl rfl 1 rfl ?_
    obtain ⟨hk27, h⟩ := ck_el h
    refine a_iast ho i_2 hk27 dX10_put_27 rfl ?_
    obtain ⟨σ27, hs27, h⟩ := bd_el h
    refine a_nmS hs27 ?_
    refine a_iconst (v := 1) ho dX10_put_28 rfl (by decide) ?_
    exact a_zret ho dX10_put_29 rfl (rI hr0 (re_el h).1) (rS hs0 (re_el h).2)
  · replace h := if_f hc6 h
    refine a_iconst (v := 0) ho dX10_put_9 rfl (by decide) ?_
    exact a_zret ho dX10_put_10 rfl (rI hr0 (re_el h).1) (rS hs0 (re_el h).2)
theorem C_X10_put {l : Launch} {X : gX} {σ σ0 : gS} {r0 : Int32} {a1 : Int32} (h : F_X10_put_0 a1 σ = some (r0, σ0)) : gCt l X yX10_put (.code yX10_put cX10_put 2 (some .boolean)) 1 [.ref (X.2.2.1 1), .int a1] σ (some (.int r0)) σ0 :=
  gCt_of cX10_put (by decide) (Nat.le_of_ble_eq_true rfl) (fun G hl hX hv hs ho => by subst hl; subst hX; exact a_sub [0, 1] rfl (T_X10_put_0 ho hv hs h))
theorem T_X11_feed_0 {G : gM} (ho : gOk G "WaxCloth" cX11_feed 2 (some .int) 2) {r0 : Int32} (hr0 : gv0 G = some (.int r0)) {σ0 : gS} (hs0 : gs0 G = σ0) {x1 : Int32} {σ : gS} (h : F_X11_feed_0 x1 σ = some (r0, σ0)) : gAt G 0 [(0, .ref (gad G 0)), (1, .int x1)] [] σ := by
  unfold F_X11_feed_0 at h
  refine a_iload_n ho dX11_feed_0 rfl rfl 1 rfl ?_
  refine a_if_lt (tgt := 11) ho dX11_feed_1 rfl rfl (fun hc1 => ?_) (fun hc1 => ?_)
  · replace h := if_t hc1 h
    refine a_iconst (v := (-1)) ho dX11_feed_11 rfl (by decide) ?_
    exact a_iret ho dX11_feed_12 (rI hr0 (re_el h).1) (rS hs0 (re_el h).2)
  · replace h := if_f hc1 h
    refine a_iload_n ho dX11_feed_4 rfl rfl 1 rfl ?_
    refine a_sipush (v := 255) ho dX11_feed_5 rfl (by decide) ?_
    refine a_icmp_le (tgt := 13) ho dX11_feed_8 rfl rfl (fun hc8 => ?_) (fun hc8 => ?_)
    · replace h := if_t hc8 h
      refine a_aload_n ho dX11_feed_13 rfl rfl 0 rfl ?_
      refine a_getR ho fl_X11_10 o_0 fr_9_0 dX11_feed_14 rfl ?_
      refine a_iload_n ho dX11_feed_17 rfl rfl 1 rfl ?_
      obtain ⟨r18, σ18, hq18, h⟩ := ob2_el h
      refine a_callVi ho vy_X10_put ml_X11_82 o_1 (C_X10_put hq18) rfl rfl (by decide) (Nat.le_of_ble_eq_true rfl) dX11_feed_18 rfl ?_
      refine a_if_eq (tgt := 34) ho dX11_feed_21 rfl rfl (fun hc21 => ?_) (fun hc21 => ?_)
      · replace h := if_t hc21 h
        refine a_bipush (v := (-3)) ho dX11_feed_34 rfl (by decide) ?_
        exact a_iret ho dX11_feed_36 (rI hr0 (re_el h).1) (rS hs0 (re_el h).2)
      · replace h := if_f hc21 h
        refine a_aload_n ho dX11_feed_24 rfl rfl 0 rfl ?_
        refine a_getR ho fl_X11_10 o_0 fr_9_0 dX11_feed_25 rfl ?_
        refine a_getI ho fl_X11_86 o_1 (ff_8_0 _ o_1) dX11_feed_28 rfl ?_
        refine a_goto (tgt := 36) ho dX11_feed_31 rfl ?_
        exact a_iret ho dX11_feed_36 (rI hr0 (re_el h).1) (rS hs0 (re_el h).2)
    · replace h := if_f hc8 h
      refine a_iconst (v := (-1)) ho dX11_feed_11 rfl (by decide) ?_
      exact a_iret ho dX11_feed_12 (rI hr0 (re_el h).1) (rS hs0 (re_el h).2)
theorem C_X11_feed {l : Launch} {X : gX} {σ σ0 : gS} {r0 : Int32} {a1 : Int32} (h : F_X11_feed_0 a1 σ = some (r0, σ0)) : gCt l X yX11_feed (.code yX11_feed cX11_feed 2 (some .int)) 2 [.ref (X.2.2.1 0), .int a1] σ (some (.int r0)) σ0 :=
  gCt_of cX11_feed (by decide) (Nat.le_of_ble_eq_true rfl) (fun G hl hX hv hs ho => by subst hl; subst hX; exact a_sub [0, 1] rfl (T_X11_feed_0 ho hv hs h))
theorem T_X11_cloth_0 {G : gM} (ho : gOk G "WaxCloth" cX11_cloth 6 (some .int) 2) {r0 : Int32} (hr0 : gv0 G = some (.int r0)) {σ0 : gS} (hs0 : gs0 G = σ0) {σ : gS} (h : F_X11_cloth_0 σ = some (r0, σ0)) : gAt G 0 [(0, .ref (gad G 0))] [] σ := by
  unfold F_X11_cloth_0 at h
  refine a_aload_n ho dX11_cloth_0 rfl rfl 0 rfl ?_
  refine a_getR ho fl_X11_21 o_0 fr_9_1 dX11_cloth_1 rfl ?_
  obtain ⟨r4, σ4, hq4, h⟩ := ob2_el h
  refine a_callVi ho vy_X6_read ml_X11_90 o_3 (C_X6_read hq4) rfl rfl (by decide) (Nat.le_of_ble_eq_true rfl) dX11_cloth_4 rfl ?_
  refine a_istore_n (L' := [(1, .int r4), (0, .ref (gad G 0))]) ho dX11_cloth_7 rfl rfl (by decide) rfl ?_
  refine a_aload_n ho dX11_cloth_8 rfl rfl 1 rfl ?_
  refine a_getR ho fl_X11_10 o_0 fr_9_0 dX11_cloth_9 rfl ?_
  refine a_iconst (v := 0) ho dX11_cloth_12 rfl (by decide) ?_
  refine a_putI ho fp_X11_86 o_1 (ff_8_0 _ o_1) dX11_cloth_13 rfl ?_
  obtain ⟨σ13, hs13, h⟩ := bd_el h
  refine a_nmS hs13 ?_
  refine a_iload_n ho dX11_cloth_16 rfl rfl 0 rfl ?_
  refine a_if_ne (tgt := 31) ho dX11_cloth_17 rfl rfl (fun hc17 => ?_) (fun hc17 => ?_)
  · replace h := if_f hc17 h
    refine a_aload_n ho dX11_cloth_31 rfl rfl 1 rfl ?_
    refine a_getR ho fl_X11_28 o_0 fr_9_2 dX11_cloth_32 rfl ?_
    refine a_aload_n ho dX11_cloth_35 rfl rfl 1 rfl ?_
    refine a_getR ho fl_X11_21 o_0 fr_9_1 dX11_cloth_36 rfl ?_
    refine a_getR ho fl_X11_97 o_3 fr_5_0 dX11_cloth_39 rfl ?_
    obtain ⟨σ42, hq42, h⟩ := ob_el h
    refine a_callVv ho vy_X2_become ml_X11_100 o_10 (C_X2_become o_10 o_4 hq42) rfl rfl (by decide) (Nat.le_of_ble_eq_true rfl) dX11_cloth_42 rfl ?_
    refine a_aload_n ho dX11_cloth_45 rfl rfl 1 rfl ?_
    refine a_getR ho fl_X11_35 o_0 fr_9_3 dX11_cloth_46 rfl ?_
    obtain ⟨σ49, hq49, h⟩ := ob_el h
    refine a_callVv ho vy_X4_forget ml_X11_104 o_16 (C_X4_forget hq49) rfl rfl (by decide) (Nat.le_of_ble_eq_true rfl) dX11_cloth_49 rfl ?_
    refine a_aload_n ho dX11_cloth_52 rfl rfl 1 rfl ?_
    refine a_getR ho fl_X11_28 o_0 fr_9_2 dX11_cloth_53 rfl ?_
    refine a_getI ho fl_X11_107 o_10 (ff_2_0 _ o_10) dX11_cloth_56 rfl ?_
    exact a_iret ho dX11_cloth_59 (rI hr0 (re_el h).1) (rS hs0 (re_el h).2)
  · replace h := if_t hc17 h
    refine a_bipush (v := (-100)) ho dX11_cloth_20 rfl (by decide) ?_
    refine a_aload_n ho dX11_cloth_22 rfl rfl 1 rfl ?_
    refine a_getR ho fl_X11_21 o_0 fr_9_1 dX11_cloth_23 rfl ?_
    refine a_getI ho fl_X11_94 o_3 (ff_5_1 _ o_3) dX11_cloth_26 rfl ?_
    refine a_isub ho dX11_cloth_29 rfl ?_
    exact a_iret ho dX11_cloth_30 (rI hr0 (re_el h).1) (rS hs0 (re_el h).2)
theorem C_X11_cloth {l : Launch} {X : gX} {σ σ0 : gS} {r0 : Int32} (h : F_X11_cloth_0 σ = some (r0, σ0)) : gCt l X yX11_cloth (.code yX11_cloth cX11_cloth 2 (some .int)) 6 [.ref (X.2.2.1 0)] σ (some (.int r0)) σ0 :=
  gCt_of cX11_cloth (by decide) (Nat.le_of_ble_eq_true rfl) (fun G hl hX hv hs ho => by subst hl; subst hX; exact a_sub [0] rfl (T_X11_cloth_0 ho hv hs h))
theorem T_X11_square_129 {G : gM} (ho : gOk G "WaxCloth" cX11_square 4 (some .int) 4) {r0 : Int32} (hr0 : gv0 G = some (.int r0)) {σ : gS} (hs0 : gs0 G = σ) {x2 : Int32} {x3 : Int32} (h : F_X11_square_129 x2 x3 σ = some r0) : gAt G 129 [(2, .int x2), (3, .int x3)] [] σ := by
  unfold F_X11_square_129 at h
  refine a_iload_n ho dX11_square_129 rfl rfl 1 rfl ?_
  refine a_iload_n ho dX11_square_130 rfl rfl 0 rfl ?_
  refine a_bipush (v := 6) ho dX11_square_131 rfl (by decide) ?_
  refine a_isub ho dX11_square_133 rfl ?_
  refine a_callSi ho vy_X9_amountOf ml_X11_138 (C_X9_amountOf x3 (x2 - 6)) rfl rfl (by decide) (Nat.le_of_ble_eq_true rfl) dX11_square_134 rfl ?_
  exact a_iret ho dX11_square_137 (rI hr0 (ro_el h)) hs0
theorem T_X11_square_0 {G : gM} (ho : gOk G "WaxCloth" cX11_square 4 (some .int) 4) {r0 : Int32} (hr0 : gv0 G = some (.int r0)) {σ : gS} (hs0 : gs0 G = σ) {x1 : Int32} {x2 : Int32} (h : F_X11_square_0 x1 x2 σ = some r0) : gAt G 0 [(0, .ref (gad G 0)), (1, .int x1), (2, .int x2)] [] σ := by
  unfold F_X11_square_0 at h
  refine a_aload_n ho dX11_square_0 rfl rfl 0 rfl ?_
  refine a_getR ho fl_X11_28 o_0 fr_9_2 dX11_square_1 rfl ?_
  refine a_iload_n ho dX11_square_4 rfl rfl 1 rfl ?_
  refine a_callVi ho vy_X2_hasSquare ml_X11_110 o_10 (C_X2_hasSquare x1) rfl rfl (by decide) (Nat.le_of_ble_eq_true rfl) dX11_square_5 rfl ?_
  refine a_if_ne (tgt := 13) ho dX11_square_8 rfl rfl (fun hc8 => ?_) (fun hc8 => ?_)
  · replace h := if_f hc8 h
    refine a_aload_n ho dX11_square_13 rfl rfl 0 rfl ?_
    refine a_getR ho fl_X11_28 o_0 fr_9_2 dX11_square_14 rfl ?_
    refine a_getR (q := 13) ho fl_X11_113 o_10 (fr_2_6 _ o_10) dX11_square_17 rfl ?_
    refine a_iload_n ho dX11_square_20 rfl rfl 1 rfl ?_
    obtain ⟨hk21, h⟩ := ck_el h
    refine a_iald ho i_13 hk21 dX11_square_21 rfl ?_
    obtain ⟨x22, hb22, h⟩ := bd_el h
    refine a_nmI hb22 ?_
    refine a_istore_n (L' := [(3, .int x22), (0, .ref (gad G 0)), (1, .int x1), (2, .int x2)]) ho dX11_square_22 rfl rfl (by decide) rfl ?_
    refine a_iload_n ho dX11_square_23 rfl rfl 3 rfl ?_
    by_cases hw24_0 : x2 = 0
    · replace h := if_t hw24_0 h
      refine a_tin (tgt := 76) ho 0 hw24_0 dX11_square_24 (by decide) (by decide) rfl rfl ?_
      refine a_aload_n ho dX11_square_76 rfl rfl 1 rfl ?_
      refine a_getR ho fl_X11_28 o_0 fr_9_2 dX11_square_77 rfl ?_
      refine a_getR (q := 11) ho fl_X11_116 o_10 (fr_2_4 _ o_10) dX11_square_80 rfl ?_
      refine a_iload_n ho dX11_square_83 rfl rfl 2 rfl ?_
      obtain ⟨hk84, h⟩ := ck_el h
      refine a_iald ho i_11 hk84 dX11_square_84 rfl ?_
      exact a_iret ho dX11_square_85 (rI hr0 (ro_el h)) hs0
    replace h := if_f hw24_0 h
    by_cases hw24_1 : x2 = 1
    · replace h := if_t hw24_1 h
      refine a_tin (tgt := 86) ho 1 hw24_1 dX11_square_24 (by decide) (by decide) rfl rfl ?_
      refine a_aload_n ho dX11_square_86 rfl rfl 1 rfl ?_
      refine a_getR ho fl_X11_28 o_0 fr_9_2 dX11_square_87 rfl ?_
      refine a_getR (q := 12) ho fl_X11_119 o_10 (fr_2_5 _ o_10) dX11_square_90 rfl ?_
      refine a_iload_n ho dX11_square_93 rfl rfl 2 rfl ?_
      obtain ⟨hk94, h⟩ := ck_el h
      refine a_iald ho i_12 hk94 dX11_square_94 rfl ?_
      exact a_iret ho dX11_square_95 (rI hr0 (ro_el h)) hs0
    replace h := if_f hw24_1 h
    by_cases hw24_2 : x2 = 2
    · replace h := if_t hw24_2 h
      refine a_tin (tgt := 96) ho 2 hw24_2 dX11_square_24 (by decide) (by decide) rfl rfl ?_
      refine a_iload_n ho dX11_square_96 rfl rfl 0 rfl ?_
      refine a_callSi ho vy_X9_waxIn ml_X11_122 (C_X9_waxIn x22) rfl rfl (by decide) (Nat.le_of_ble_eq_true rfl) dX11_square_97 rfl ?_
      exact a_iret ho dX11_square_100 (rI hr0 (ro_el h)) hs0
    replace h := if_f hw24_2 h
    by_cases hw24_3 : x2 = 3
    · replace h := if_t hw24_3 h
      refine a_tin (tgt := 101) ho 3 hw24_3 dX11_square_24 (by decide) (by decide) rfl rfl ?_
      refine a_iload_n ho dX11_square_101 rfl rfl 0 rfl ?_
      obtain ⟨r102, hq102, h⟩ := ob_el h
      refine a_callSi ho vy_X9_hueOf ml_X11_128 (C_X9_hueOf hq102) rfl rfl (by decide) (Nat.le_of_ble_eq_true rfl) dX11_square_102 rfl ?_
      exact a_iret ho dX11_square_105 (rI hr0 (ro_el h)) hs0
    replace h := if_f hw24_3 h
    by_cases hw24_4 : x2 = 4
    · replace h := if_t hw24_4 h
      refine a_tin (tgt := 106) ho 4 hw24_4 dX11_square_24 (by decide) (by decide) rfl rfl ?_
      refine a_iload_n ho dX11_square_106 rfl rfl 0 rfl ?_
      refine a_callSi ho vy_X9_darkness ml_X11_131 (C_X9_darkness x22) rfl rfl (by decide) (Nat.le_of_ble_eq_true rfl) dX11_square_107 rfl ?_
      exact a_iret ho dX11_square_110 (rI hr0 (ro_el h)) hs0
    replace h := if_f hw24_4 h
    by_cases hw24_5 : x2 = 5
    · replace h := if_t hw24_5 h
      refine a_tin (tgt := 111) ho 5 hw24_5 dX11_square_24 (by decide) (by decide) rfl rfl ?_
      refine a_aload_n ho dX11_square_111 rfl rfl 1 rfl ?_
      refine a_getR ho fl_X11_28 o_0 fr_9_2 dX11_square_112 rfl ?_
      refine a_iload_n ho dX11_square_115 rfl rfl 2 rfl ?_
      refine a_iload_n ho dX11_square_116 rfl rfl 0 rfl ?_
      obtain ⟨r117, hq117, h⟩ := ob_el h
      refine a_callVi ho vy_X2_isRight ml_X11_134 o_10 (C_X2_isRight hq117) rfl rfl (by decide) (Nat.le_of_ble_eq_true rfl) dX11_square_117 rfl ?_
      refine a_if_eq (tgt := 127) ho dX11_square_120 rfl rfl (fun hc120 => ?_) (fun hc120 => ?_)
      · replace h := if_t hc120 h
        refine a_iconst (v := 0) ho dX11_square_127 rfl (by decide) ?_
        exact a_iret ho dX11_square_128 (rI hr0 (ro_el h)) hs0
      · replace h := if_f hc120 h
        refine a_iconst (v := 1) ho dX11_square_123 rfl (by decide) ?_
        refine a_goto (tgt := 128) ho dX11_square_124 rfl ?_
        exact a_iret ho dX11_square_128 (rI hr0 (ro_el h)) hs0
    replace h := if_f hw24_5 h
    by_cases hw24_6 : x2 = 6
    · replace h := if_t hw24_6 h
      refine a_tin (tgt := 129) ho 6 hw24_6 dX11_square_24 (by decide) (by decide) rfl rfl ?_
      exact a_sub [3, 0] rfl (T_X11_square_129 ho hr0 hs0 h)
    replace h := if_f hw24_6 h
    by_cases hw24_7 : x2 = 7
    · replace h := if_t hw24_7 h
      refine a_tin (tgt := 129) ho 7 hw24_7 dX11_square_24 (by decide) (by decide) rfl rfl ?_
      exact a_sub [3, 0] rfl (T_X11_square_129 ho hr0 hs0 h)
    replace h := if_f hw24_7 h
    by_cases hw24_8 : x2 = 8
    · replace h := if_t hw24_8 h
      refine a_tin (tgt := 129) ho 8 hw24_8 dX11_square_24 (by decide) (by decide) rfl rfl ?_
      exact a_sub [3, 0] rfl (T_X11_square_129 ho hr0 hs0 h)
    replace h := if_f hw24_8 h
    refine a_tout (tgt := 138) ho (by have q0 := tI hw24_0 (z := 0) rfl; have q1 := tI hw24_1 (z := 1) rfl; have q2 := tI hw24_2 (z := 2) rfl; have q3 := tI hw24_3 (z := 3) rfl; have q4 := tI hw24_4 (z := 4) rfl; have q5 := tI hw24_5 (z := 5) rfl; have q6 := tI hw24_6 (z := 6) rfl; have q7 := tI hw24_7 (z := 7) rfl; have q8 := tI hw24_8 (z := 8) rfl; omega) dX11_square_24 rfl ?_
    refine a_iconst (v := (-1)) ho dX11_square_138 rfl (by decide) ?_
    exact a_iret ho dX11_square_139 (rI hr0 (ro_el h)) hs0
  · replace h := if_t hc8 h
    refine a_iconst (v := (-1)) ho dX11_square_11 rfl (by decide) ?_
    exact a_iret ho dX11_square_12 (rI hr0 (ro_el h)) hs0
theorem C_X11_square {l : Launch} {X : gX} {σ : gS} {r0 : Int32} {a1 : Int32} {a2 : Int32} (h : F_X11_square_0 a1 a2 σ = some r0) : gCt l X yX11_square (.code yX11_square cX11_square 4 (some .int)) 4 [.ref (X.2.2.1 0), .int a1, .int a2] σ (some (.int r0)) σ :=
  gCt_of cX11_square (by decide) (Nat.le_of_ble_eq_true rfl) (fun G hl hX hv hs ho => by subst hl; subst hX; exact a_sub [0, 1, 2] rfl (T_X11_square_0 ho hv hs h))
