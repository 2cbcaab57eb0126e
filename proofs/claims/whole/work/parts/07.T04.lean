theorem T_X11_round_0 {G : gM} (ho : gOk G "WaxCloth" cX11_round 8 (some .int) 7) {r0 : Int32} (hr0 : gv0 G = some (.int r0)) {σ0 : gS} (hs0 : gs0 G = σ0) {x1 : Int32} {x2 : Int32} {x3 : Int32} {x4 : Int32} {x5 : Int32} {σ : gS} (h : F_X11_round_0 x1 x2 x3 x4 x5 σ = some (r0, σ0)) : gAt G 0 [(0, .ref (gad G 0)), (1, .int x1), (2, .int x2), (3, .int x3), (4, .int x4), (5, .int x5)] [] σ := by
  unfold F_X11_round_0 at h
  refine a_aload_n ho dX11_round_0 rfl rfl 0 rfl ?_
  refine a_getR ho fl_X11_28 o_0 fr_9_2 dX11_round_1 rfl ?_
  refine a_callVi ho vy_X2_stands ml_X11_192 o_10 (C_X2_stands o_10) rfl rfl (by decide) (Nat.le_of_ble_eq_true rfl) dX11_round_4 rfl ?_
  refine a_if_eq (tgt := 27) ho dX11_round_7 rfl rfl (fun hc7 => ?_) (fun hc7 => ?_)
  · replace h := if_t hc7 h
    refine a_iconst (v := (-1)) ho dX11_round_27 rfl (by decide) ?_
    exact a_iret ho dX11_round_28 (rI hr0 (re_el h).1) (rS hs0 (re_el h).2)
  · replace h := if_f hc7 h
    refine a_iload ho dX11_round_10 rfl 4 rfl ?_
    refine a_iconst (v := 1) ho dX11_round_12 rfl (by decide) ?_
    refine a_icmp_lt (tgt := 27) ho dX11_round_13 rfl rfl (fun hc13 => ?_) (fun hc13 => ?_)
    · replace h := if_t hc13 h
      refine a_iconst (v := (-1)) ho dX11_round_27 rfl (by decide) ?_
      exact a_iret ho dX11_round_28 (rI hr0 (re_el h).1) (rS hs0 (re_el h).2)
    · replace h := if_f hc13 h
      refine a_iload ho dX11_round_16 rfl 5 rfl ?_
      refine a_if_lt (tgt := 27) ho dX11_round_18 rfl rfl (fun hc18 => ?_) (fun hc18 => ?_)
      · replace h := if_t hc18 h
        refine a_iconst (v := (-1)) ho dX11_round_27 rfl (by decide) ?_
        exact a_iret ho dX11_round_28 (rI hr0 (re_el h).1) (rS hs0 (re_el h).2)
      · replace h := if_f hc18 h
        refine a_iload ho dX11_round_21 rfl 5 rfl ?_
        refine a_iconst (v := 1) ho dX11_round_23 rfl (by decide) ?_
        refine a_icmp_le (tgt := 29) ho dX11_round_24 rfl rfl (fun hc24 => ?_) (fun hc24 => ?_)
        · replace h := if_t hc24 h
          refine a_aload_n ho dX11_round_29 rfl rfl 0 rfl ?_
          refine a_iload_n ho dX11_round_30 rfl rfl 1 rfl ?_
          refine a_iload_n ho dX11_round_31 rfl rfl 2 rfl ?_
          refine a_iload_n ho dX11_round_32 rfl rfl 3 rfl ?_
          refine a_iload ho dX11_round_33 rfl 4 rfl ?_
          obtain ⟨r35, σ35, hq35, h⟩ := ob2_el h
          refine a_callVi ho vy_X11_takeDoings ml_X11_289 o_0 (C_X11_takeDoings hq35) rfl rfl (by decide) (Nat.le_of_ble_eq_true rfl) dX11_round_35 rfl ?_
          refine a_istore (L' := [(6, .int r35), (0, .ref (gad G 0)), (1, .int x1), (2, .int x2), (3, .int x3), (4, .int x4), (5, .int x5)]) ho dX11_round_38 rfl (by decide) rfl ?_
          refine a_iload ho dX11_round_40 rfl 0 rfl ?_
          refine a_if_eq (tgt := 48) ho dX11_round_42 rfl rfl (fun hc42 => ?_) (fun hc42 => ?_)
          · replace h := if_t hc42 h
            refine a_aload_n ho dX11_round_48 rfl rfl 1 rfl ?_
            refine a_getR ho fl_X11_74 o_0 fr_9_9 dX11_round_49 rfl ?_
            refine a_aload_n ho dX11_round_52 rfl rfl 1 rfl ?_
            refine a_getR ho fl_X11_28 o_0 fr_9_2 dX11_round_53 rfl ?_
            refine a_aload_n ho dX11_round_56 rfl rfl 1 rfl ?_
            refine a_getR ho fl_X11_78 o_0 fr_9_10 dX11_round_57 rfl ?_
            refine a_iload ho dX11_round_60 rfl 5 rfl ?_
            obtain ⟨σ62, hq62, h⟩ := ob_el h
            refine a_callVv ho vy_X7_measure ml_X11_296 o_80 (C_X7_measure i_81 hq62) rfl rfl (by decide) (Nat.le_of_ble_eq_true rfl) dX11_round_62 rfl ?_
            refine a_iload ho dX11_round_65 rfl 6 rfl ?_
            refine a_if_ne (tgt := 80) ho dX11_round_67 rfl rfl (fun hc67 => ?_) (fun hc67 => ?_)
            · replace h := if_f hc67 h
              refine a_aload_n ho dX11_round_80 rfl rfl 1 rfl ?_
              refine a_getR ho fl_X11_74 o_0 fr_9_9 dX11_round_81 rfl ?_
              refine a_getI ho fl_X11_303 o_80 (ff_6_1 _ o_80) dX11_round_84 rfl ?_
              exact a_iret ho dX11_round_87 (rI hr0 (re_el h).1) (rS hs0 (re_el h).2)
            · replace h := if_t hc67 h
              refine a_aload_n ho dX11_round_70 rfl rfl 1 rfl ?_
              refine a_getR ho fl_X11_74 o_0 fr_9_9 dX11_round_71 rfl ?_
              refine a_getI ho fl_X11_300 o_80 (ff_6_0 _ o_80) dX11_round_74 rfl ?_
              refine a_goto (tgt := 87) ho dX11_round_77 rfl ?_
              exact a_iret ho dX11_round_87 (rI hr0 (re_el h).1) (rS hs0 (re_el h).2)
          · replace h := if_f hc42 h
            refine a_iload ho dX11_round_45 rfl 0 rfl ?_
            exact a_iret ho dX11_round_47 (rI hr0 (re_el h).1) (rS hs0 (re_el h).2)
        · replace h := if_f hc24 h
          refine a_iconst (v := (-1)) ho dX11_round_27 rfl (by decide) ?_
          exact a_iret ho dX11_round_28 (rI hr0 (re_el h).1) (rS hs0 (re_el h).2)
theorem C_X11_round {l : Launch} {X : gX} {σ σ0 : gS} {r0 : Int32} {a1 : Int32} {a2 : Int32} {a3 : Int32} {a4 : Int32} {a5 : Int32} (h : F_X11_round_0 a1 a2 a3 a4 a5 σ = some (r0, σ0)) : gCt l X yX11_round (.code yX11_round cX11_round 7 (some .int)) 8 [.ref (X.2.2.1 0), .int a1, .int a2, .int a3, .int a4, .int a5] σ (some (.int r0)) σ0 :=
  gCt_of cX11_round (by decide) (Nat.le_of_ble_eq_true rfl) (fun G hl hX hv hs ho => by subst hl; subst hX; exact a_sub [0, 1, 2, 3, 4, 5] rfl (T_X11_round_0 ho hv hs h))
theorem T_X11_areTriples_2 {G : gM} (ho : gOk G "WaxCloth" cX11_areTriples 1 (some .boolean) 8) {r0 : Int32} (hr0 : gv0 G = some (.int r0)) {σ : gS} (hs0 : gs0 G = σ) {c0 : Nat} (hc0 : isO c0 7) : ∀ (n : Nat) (x1 : Int32) (x2 : Int32) (x3 : Int32), F_X11_areTriples_2 c0 n x1 x2 x3 σ = some r0 → gAt G 2 [(0, .ref (gad G c0)), (1, .int x1), (2, .int x2), (3, .int x3)] [] σ := by
  intro n
  induction n with
  | zero => intro x1 x2 x3 h; cases h
  | succ n ih =>
    intro x1 x2 x3 h
    unfold F_X11_areTriples_2 at h
    refine a_iload_n ho dX11_areTriples_2 rfl rfl 3 rfl ?_
    refine a_iload_n ho dX11_areTriples_3 rfl rfl 2 rfl ?_
    refine a_icmp_ge (tgt := 73) ho dX11_areTriples_4 rfl rfl (fun hc4 => ?_) (fun hc4 => ?_)
    · replace h := if_t hc4 h
      refine a_iconst (v := 1) ho dX11_areTriples_73 rfl (by decide) ?_
      exact a_zret ho dX11_areTriples_74 rfl (rI hr0 (ro_el h)) hs0
    · replace h := if_f hc4 h
      refine a_aload_n ho dX11_areTriples_7 rfl rfl 0 rfl ?_
      refine a_getR ho fl_X11_279 hc0 (fr_7_2 _ hc0) dX11_areTriples_8 rfl ?_
      refine a_iload_n ho dX11_areTriples_11 rfl rfl 1 rfl ?_
      refine a_iload_n ho dX11_areTriples_12 rfl rfl 3 rfl ?_
      refine a_iconst (v := 3) ho dX11_areTriples_13 rfl (by decide) ?_
      refine a_imul ho dX11_areTriples_14 rfl ?_
      refine a_iadd ho dX11_areTriples_15 rfl ?_
      obtain ⟨hk16, h⟩ := ck_el h
      refine a_lald ho (fa_7_2 _ hc0) hk16 dX11_areTriples_16 rfl ?_
      obtain ⟨x17, hb17, h⟩ := bd_el h
      refine a_nmL hb17 ?_
      refine a_lstore (L' := [(4, .long x17), (0, .ref (gad G c0)), (1, .int x1), (2, .int x2), (3, .int x3)]) ho dX11_areTriples_17 rfl (by decide) rfl ?_
      refine a_aload_n ho dX11_areTriples_19 rfl rfl 1 rfl ?_
      refine a_getR ho fl_X11_279 hc0 (fr_7_2 _ hc0) dX11_areTriples_20 rfl ?_
      refine a_iload_n ho dX11_areTriples_23 rfl rfl 2 rfl ?_
      refine a_iload_n ho dX11_areTriples_24 rfl rfl 4 rfl ?_
      refine a_iconst (v := 3) ho dX11_areTriples_25 rfl (by decide) ?_
      refine a_imul ho dX11_areTriples_26 rfl ?_
      refine a_iadd ho dX11_areTriples_27 rfl ?_
      refine a_iconst (v := 1) ho dX11_areTriples_28 rfl (by decide) ?_
      refine a_iadd ho dX11_areTriples_29 rfl ?_
      obtain ⟨hk30, h⟩ := ck_el h
      refine a_lald ho (fa_7_2 _ hc0) hk30 dX11_areTriples_30 rfl ?_
      obtain ⟨x31, hb31, h⟩ := bd_el h
      refine a_nmL hb31 ?_
      refine a_lstore (L' := [(6, .long x31), (4, .long x17), (0, .ref (gad G c0)), (1, .int x1), (2, .int x2), (3, .int x3)]) ho dX11_areTriples_31 rfl (by decide) rfl ?_
      refine a_lload ho dX11_areTriples_33 rfl 1 rfl ?_
      refine a_lconst (v := 0) ho dX11_areTriples_35 rfl (by decide) ?_
      refine a_lcmp ho dX11_areTriples_36 rfl ?_
      refine a_if_lt (tgt := 65) ho dX11_areTriples_37 rfl rfl (fun hc37 => ?_) (fun hc37 => ?_)
      · replace h := if_t hc37 h
        refine a_iconst (v := 0) ho dX11_areTriples_65 rfl (by decide) ?_
        exact a_zret ho dX11_areTriples_66 rfl (rI hr0 (ro_el h)) hs0
      · replace h := if_f hc37 h
        refine a_lload ho dX11_areTriples_40 rfl 1 rfl ?_
        refine a_ldc2 ho dX11_areTriples_42 rfl kk_X11_329 ?_
        refine a_lcmp ho dX11_areTriples_45 rfl ?_
        refine a_if_gt (tgt := 65) ho dX11_areTriples_46 rfl rfl (fun hc46 => ?_) (fun hc46 => ?_)
        · replace h := if_t hc46 h
          refine a_iconst (v := 0) ho dX11_areTriples_65 rfl (by decide) ?_
          exact a_zret ho dX11_areTriples_66 rfl (rI hr0 (ro_el h)) hs0
        · replace h := if_f hc46 h
          refine a_lload ho dX11_areTriples_49 rfl 0 rfl ?_
          refine a_lconst (v := 0) ho dX11_areTriples_51 rfl (by decide) ?_
          refine a_lcmp ho dX11_areTriples_52 rfl ?_
          refine a_if_lt (tgt := 65) ho dX11_areTriples_53 rfl rfl (fun hc53 => ?_) (fun hc53 => ?_)
          · replace h := if_t hc53 h
            refine a_iconst (v := 0) ho dX11_areTriples_65 rfl (by decide) ?_
            exact a_zret ho dX11_areTriples_66 rfl (rI hr0 (ro_el h)) hs0
          · replace h := if_f hc53 h
            refine a_lload ho dX11_areTriples_56 rfl 0 rfl ?_
            refine a_ldc2 ho dX11_areTriples_58 rfl kk_X11_331 ?_
            refine a_lcmp ho dX11_areTriples_61 rfl ?_
            refine a_if_le (tgt := 67) ho dX11_areTriples_62 rfl rfl (fun hc62 => ?_) (fun hc62 => ?_)
            · replace h := if_t hc62 h
              obtain ⟨x67, hb67, h⟩ := bd_el h
              refine a_iinc (L' := [(3, .int x67), (6, .long x31), (4, .long x17), (0, .ref (gad G c0)), (1, .int x1), (2, .int x2)]) ho dX11_areTriples_67 rfl 5 rfl hb67 (by decide) rfl ?_
              refine a_goto (tgt := 2) ho dX11_areTriples_70 rfl ?_
              exact a_sub [3, 4, 5, 0] rfl (ih _ _ _ h)
            · replace h := if_f hc62 h
              refine a_iconst (v := 0) ho dX11_areTriples_65 rfl (by decide) ?_
              exact a_zret ho dX11_areTriples_66 rfl (rI hr0 (ro_el h)) hs0
theorem T_X11_areTriples_0 {G : gM} (ho : gOk G "WaxCloth" cX11_areTriples 1 (some .boolean) 8) {r0 : Int32} (hr0 : gv0 G = some (.int r0)) {σ : gS} (hs0 : gs0 G = σ) {c0 : Nat} (hc0 : isO c0 7) {x1 : Int32} {x2 : Int32} (h : F_X11_areTriples_0 c0 x1 x2 σ = some r0) : gAt G 0 [(0, .ref (gad G c0)), (1, .int x1), (2, .int x2)] [] σ := by
  unfold F_X11_areTriples_0 at h
  refine a_iconst (v := 0) ho dX11_areTriples_0 rfl (by decide) ?_
  refine a_istore_n (L' := [(3, .int 0), (0, .ref (gad G c0)), (1, .int x1), (2, .int x2)]) ho dX11_areTriples_1 rfl rfl (by decide) rfl ?_
  exact a_sub [1, 2, 3, 0] rfl (T_X11_areTriples_2 ho hr0 hs0 hc0 _ _ _ _ h)
theorem C_X11_areTriples {l : Launch} {X : gX} {σ : gS} {r0 : Int32} {c0 : Nat} (hc0 : isO c0 7) {a1 : Int32} {a2 : Int32} (h : F_X11_areTriples_0 c0 a1 a2 σ = some r0) : gCt l X yX11_areTriples (.code yX11_areTriples cX11_areTriples 8 (some .boolean)) 1 [.ref (X.2.2.1 c0), .int a1, .int a2] σ (some (.int r0)) σ :=
  gCt_of cX11_areTriples (by decide) (Nat.le_of_ble_eq_true rfl) (fun G hl hX hv hs ho => by subst hl; subst hX; exact a_sub [0, 1, 2] rfl (T_X11_areTriples_0 ho hv hs hc0 h))
theorem T_X11_kindsByTriples_6 {G : gM} (ho : gOk G "WaxCloth" cX11_kindsByTriples 3 (some .int) 6) {r0 : Int32} (hr0 : gv0 G = some (.int r0)) {σ : gS} (hs0 : gs0 G = σ) {c0 : Nat} (hc0 : isO c0 7) : ∀ (n : Nat) (x1 : Int32) (x2 : Int32) (x3 : Int32) (x4 : Int32), F_X11_kindsByTriples_6 c0 n x1 x2 x3 x4 σ = some r0 → gAt G 6 [(0, .ref (gad G c0)), (1, .int x1), (2, .int x2), (3, .int x3), (4, .int x4)] [] σ := by
  intro n
  induction n with
  | zero => intro x1 x2 x3 x4 h; cases h
  | succ n ih =>
    intro x1 x2 x3 x4 h
    unfold F_X11_kindsByTriples_6 at h
    refine a_iload ho dX11_kindsByTriples_6 rfl 4 rfl ?_
    refine a_iload_n ho dX11_kindsByTriples_8 rfl rfl 2 rfl ?_
    refine a_icmp_ge (tgt := 58) ho dX11_kindsByTriples_9 rfl rfl (fun hc9 => ?_) (fun hc9 => ?_)
    · replace h := if_t hc9 h
      refine a_iload_n ho dX11_kindsByTriples_58 rfl rfl 3 rfl ?_
      exact a_iret ho dX11_kindsByTriples_59 (rI hr0 (ro_el h)) hs0
    · replace h := if_f hc9 h
      refine a_iload_n ho dX11_kindsByTriples_12 rfl rfl 1 rfl ?_
      refine a_iload ho dX11_kindsByTriples_13 rfl 4 rfl ?_
      refine a_iconst (v := 3) ho dX11_kindsByTriples_15 rfl (by decide) ?_
      refine a_imul ho dX11_kindsByTriples_16 rfl ?_
      refine a_iadd ho dX11_kindsByTriples_17 rfl ?_
      obtain ⟨x18, hb18, h⟩ := bd_el h
      refine a_nmI hb18 ?_
      refine a_istore (L' := [(5, .int x18), (0, .ref (gad G c0)), (1, .int x1), (2, .int x2), (3, .int x3), (4, .int x4)]) ho dX11_kindsByTriples_18 rfl (by decide) rfl ?_
      refine a_iload_n ho dX11_kindsByTriples_20 rfl rfl 4 rfl ?_
      refine a_aload_n ho dX11_kindsByTriples_21 rfl rfl 1 rfl ?_
      refine a_getR ho fl_X11_279 hc0 (fr_7_2 _ hc0) dX11_kindsByTriples_22 rfl ?_
      refine a_iload ho dX11_kindsByTriples_25 rfl 0 rfl ?_
      obtain ⟨hk27, h⟩ := ck_el h
      refine a_lald ho (fa_7_2 _ hc0) hk27 dX11_kindsByTriples_27 rfl ?_
      refine a_l2i ho dX11_kindsByTriples_28 rfl ?_
      refine a_aload_n ho dX11_kindsByTriples_29 rfl rfl 1 rfl ?_
      refine a_getR ho fl_X11_279 hc0 (fr_7_2 _ hc0) dX11_kindsByTriples_30 rfl ?_
      refine a_iload ho dX11_kindsByTriples_33 rfl 0 rfl ?_
      refine a_iconst (v := 1) ho dX11_kindsByTriples_35 rfl (by decide) ?_
      refine a_iadd ho dX11_kindsByTriples_36 rfl ?_
      obtain ⟨hk37, h⟩ := ck_el h
      refine a_lald ho (fa_7_2 _ hc0) hk37 dX11_kindsByTriples_37 rfl ?_
      refine a_l2i ho dX11_kindsByTriples_38 rfl ?_
      refine a_aload_n ho dX11_kindsByTriples_39 rfl rfl 1 rfl ?_
      refine a_getR ho fl_X11_279 hc0 (fr_7_2 _ hc0) dX11_kindsByTriples_40 rfl ?_
      refine a_iload ho dX11_kindsByTriples_43 rfl 0 rfl ?_
      refine a_iconst (v := 2) ho dX11_kindsByTriples_45 rfl (by decide) ?_
      refine a_iadd ho dX11_kindsByTriples_46 rfl ?_
      obtain ⟨hk47, h⟩ := ck_el h
      refine a_lald ho (fa_7_2 _ hc0) hk47 dX11_kindsByTriples_47 rfl ?_
      obtain ⟨r48, hq48, h⟩ := ob_el h
      refine a_callSi ho vy_X3_thatTake ml_X11_333 (C_X3_thatTake hq48) rfl rfl (by decide) (Nat.le_of_ble_eq_true rfl) dX11_kindsByTriples_48 rfl ?_
      refine a_istore_n (L' := [(3, .int r48), (5, .int x18), (0, .ref (gad G c0)), (1, .int x1), (2, .int x2), (4, .int x4)]) ho dX11_kindsByTriples_51 rfl rfl (by decide) rfl ?_
      obtain ⟨x52, hb52, h⟩ := bd_el h
      refine a_iinc (L' := [(4, .int x52), (3, .int r48), (5, .int x18), (0, .ref (gad G c0)), (1, .int x1), (2, .int x2)]) ho dX11_kindsByTriples_52 rfl 5 rfl hb52 (by decide) rfl ?_
      refine a_goto (tgt := 6) ho dX11_kindsByTriples_55 rfl ?_
      exact a_sub [3, 4, 5, 1, 0] rfl (ih _ _ _ _ h)
theorem T_X11_kindsByTriples_0 {G : gM} (ho : gOk G "WaxCloth" cX11_kindsByTriples 3 (some .int) 6) {r0 : Int32} (hr0 : gv0 G = some (.int r0)) {σ : gS} (hs0 : gs0 G = σ) {c0 : Nat} (hc0 : isO c0 7) {x1 : Int32} {x2 : Int32} (h : F_X11_kindsByTriples_0 c0 x1 x2 σ = some r0) : gAt G 0 [(0, .ref (gad G c0)), (1, .int x1), (2, .int x2)] [] σ := by
  unfold F_X11_kindsByTriples_0 at h
  refine a_bipush (v := 62) ho dX11_kindsByTriples_0 rfl (by decide) ?_
  refine a_istore_n (L' := [(3, .int 62), (0, .ref (gad G c0)), (1, .int x1), (2, .int x2)]) ho dX11_kindsByTriples_2 rfl rfl (by decide) rfl ?_
  refine a_iconst (v := 0) ho dX11_kindsByTriples_3 rfl (by decide) ?_
  refine a_istore (L' := [(4, .int 0), (3, .int 62), (0, .ref (gad G c0)), (1, .int x1), (2, .int x2)]) ho dX11_kindsByTriples_4 rfl (by decide) rfl ?_
  exact a_sub [2, 3, 4, 1, 0] rfl (T_X11_kindsByTriples_6 ho hr0 hs0 hc0 _ _ _ _ _ h)
theorem C_X11_kindsByTriples {l : Launch} {X : gX} {σ : gS} {r0 : Int32} {c0 : Nat} (hc0 : isO c0 7) {a1 : Int32} {a2 : Int32} (h : F_X11_kindsByTriples_0 c0 a1 a2 σ = some r0) : gCt l X yX11_kindsByTriples (.code yX11_kindsByTriples cX11_kindsByTriples 6 (some .int)) 3 [.ref (X.2.2.1 c0), .int a1, .int a2] σ (some (.int r0)) σ :=
  gCt_of cX11_kindsByTriples (by decide) (Nat.le_of_ble_eq_true rfl) (fun G hl hX hv hs ho => by subst hl; subst hX; exact a_sub [0, 1, 2] rfl (T_X11_kindsByTriples_0 ho hv hs hc0 h))
theorem T_X11_kinds_0 {G : gM} (ho : gOk G "WaxCloth" cX11_kinds 5 (some .int) 8) {r0 : Int32} (hr0 : gv0 G = some (.int r0)) {σ : gS} (hs0 : gs0 G = σ) {x1 : Int32} {x2 : Int32} {x3 : Int32} {x4 : Int32} {x5 : Int32} (h : F_X11_kinds_0 x1 x2 x3 x4 x5 σ = some r0) : gAt G 0 [(0, .ref (gad G 0)), (1, .int x1), (2, .int x2), (3, .int x3), (4, .int x4), (5, .int x5)] [] σ := by
  unfold F_X11_kinds_0 at h
  refine a_iload_n ho dX11_kinds_0 rfl rfl 1 rfl ?_
  refine a_callSi ho vy_X11_isSheet ml_X11_248 (C_X11_isSheet x1) rfl rfl (by decide) (Nat.le_of_ble_eq_true rfl) dX11_kinds_1 rfl ?_
  refine a_if_eq (tgt := 27) ho dX11_kinds_4 rfl rfl (fun hc4 => ?_) (fun hc4 => ?_)
  · replace h := if_t hc4 h
    refine a_iconst (v := (-1)) ho dX11_kinds_27 rfl (by decide) ?_
    exact a_iret ho dX11_kinds_28 (rI hr0 (ro_el h)) hs0
  · replace h := if_f hc4 h
    refine a_iload_n ho dX11_kinds_7 rfl rfl 2 rfl ?_
    refine a_callSi ho vy_X8_isLane ml_X11_251 (C_X8_isLane x2) rfl rfl (by decide) (Nat.le_of_ble_eq_true rfl) dX11_kinds_8 rfl ?_
    refine a_if_eq (tgt := 27) ho dX11_kinds_11 rfl rfl (fun hc11 => ?_) (fun hc11 => ?_)
    · replace h := if_t hc11 h
      refine a_iconst (v := (-1)) ho dX11_kinds_27 rfl (by decide) ?_
      exact a_iret ho dX11_kinds_28 (rI hr0 (ro_el h)) hs0
    · replace h := if_f hc11 h
      refine a_iload ho dX11_kinds_14 rfl 4 rfl ?_
      refine a_iconst (v := 1) ho dX11_kinds_16 rfl (by decide) ?_
      refine a_icmp_lt (tgt := 27) ho dX11_kinds_17 rfl rfl (fun hc17 => ?_) (fun hc17 => ?_)
      · replace h := if_t hc17 h
        refine a_iconst (v := (-1)) ho dX11_kinds_27 rfl (by decide) ?_
        exact a_iret ho dX11_kinds_28 (rI hr0 (ro_el h)) hs0
      · replace h := if_f hc17 h
        refine a_iload ho dX11_kinds_20 rfl 4 rfl ?_
        refine a_bipush (v := 7) ho dX11_kinds_22 rfl (by decide) ?_
        refine a_icmp_le (tgt := 29) ho dX11_kinds_24 rfl rfl (fun hc24 => ?_) (fun hc24 => ?_)
        · replace h := if_t hc24 h
          refine a_iload ho dX11_kinds_29 rfl 5 rfl ?_
          refine a_iconst (v := (-1)) ho dX11_kinds_31 rfl (by decide) ?_
          refine a_icmp_lt (tgt := 42) ho dX11_kinds_32 rfl rfl (fun hc32 => ?_) (fun hc32 => ?_)
          · replace h := if_t hc32 h
            refine a_iconst (v := (-1)) ho dX11_kinds_42 rfl (by decide) ?_
            exact a_iret ho dX11_kinds_43 (rI hr0 (ro_el h)) hs0
          · replace h := if_f hc32 h
            refine a_iload ho dX11_kinds_35 rfl 5 rfl ?_
            refine a_bipush (v := 9) ho dX11_kinds_37 rfl (by decide) ?_
            refine a_icmp_le (tgt := 44) ho dX11_kinds_39 rfl rfl (fun hc39 => ?_) (fun hc39 => ?_)
            · replace h := if_t hc39 h
              refine a_aload_n ho dX11_kinds_44 rfl rfl 0 rfl ?_
              refine a_getR ho fl_X11_45 o_0 fr_9_5 dX11_kinds_45 rfl ?_
              refine a_iload_n ho dX11_kinds_48 rfl rfl 1 rfl ?_
              obtain ⟨hk49, h⟩ := ck_el h
              refine a_aald ho (by decide) r_55 hk49 (ar_55 _ (rng_lt hk49)) dX11_kinds_49 rfl ?_
              refine a_iload_n ho dX11_kinds_50 rfl rfl 2 rfl ?_
              refine a_iload_n ho dX11_kinds_51 rfl rfl 3 rfl ?_
              refine a_iload ho dX11_kinds_52 rfl 4 rfl ?_
              refine a_iconst (v := 3) ho dX11_kinds_54 rfl (by decide) ?_
              refine a_imul ho dX11_kinds_55 rfl ?_
              refine a_callVi ho vy_X8_refusal ml_X11_267 (at_55 _ (rng_lt hk49)) (C_X8_refusal (at_55 _ (rng_lt hk49)) x2 x3 (x4 * 3)) rfl rfl (by decide) (Nat.le_of_ble_eq_true rfl) dX11_kinds_56 rfl ?_
              obtain ⟨x59, hb59, h⟩ := bd_el h
              refine a_nmI hb59 ?_
              refine a_istore (L' := [(6, .int x59), (0, .ref (gad G 0)), (1, .int x1), (2, .int x2), (3, .int x3), (4, .int x4), (5, .int x5)]) ho dX11_kinds_59 rfl (by decide) rfl ?_
              refine a_iload ho dX11_kinds_61 rfl 0 rfl ?_
              refine a_if_eq (tgt := 69) ho dX11_kinds_63 rfl rfl (fun hc63 => ?_) (fun hc63 => ?_)
              · replace h := if_t hc63 h
                refine a_aload_n ho dX11_kinds_69 rfl rfl 1 rfl ?_
                refine a_getR ho fl_X11_45 o_0 fr_9_5 dX11_kinds_70 rfl ?_
                refine a_iload_n ho dX11_kinds_73 rfl rfl 2 rfl ?_
                obtain ⟨hk74, h⟩ := ck_el h
                refine a_aald ho (by decide) r_55 hk74 (ar_55 _ (rng_lt hk74)) dX11_kinds_74 rfl ?_
                refine a_iload_n ho dX11_kinds_75 rfl rfl 4 rfl ?_
                refine a_iload ho dX11_kinds_76 rfl 5 rfl ?_
                obtain ⟨r78, hq78, h⟩ := ob_el h
                refine a_callSi ho vy_X11_areTriples ml_X11_306 (C_X11_areTriples (at_55 _ (rng_lt hk74)) hq78) rfl rfl (by decide) (Nat.le_of_ble_eq_true rfl) dX11_kinds_78 rfl ?_
                refine a_if_ne (tgt := 87) ho dX11_kinds_81 rfl rfl (fun hc81 => ?_) (fun hc81 => ?_)
                · replace h := if_f hc81 h
                  refine a_aload_n ho dX11_kinds_87 rfl rfl 1 rfl ?_
                  refine a_getR ho fl_X11_45 o_0 fr_9_5 dX11_kinds_88 rfl ?_
                  refine a_iload_n ho dX11_kinds_91 rfl rfl 2 rfl ?_
                  obtain ⟨hk92, h⟩ := ck_el h
                  refine a_aald ho (by decide) r_55 hk92 (ar_55 _ (rng_lt hk92)) dX11_kinds_92 rfl ?_
                  refine a_iload_n ho dX11_kinds_93 rfl rfl 4 rfl ?_
                  refine a_iload ho dX11_kinds_94 rfl 5 rfl ?_
                  obtain ⟨r96, hq96, h⟩ := ob_el h
                  refine a_callSi ho vy_X11_kindsByTriples ml_X11_310 (C_X11_kindsByTriples (at_55 _ (rng_lt hk92)) hq96) rfl rfl (by decide) (Nat.le_of_ble_eq_true rfl) dX11_kinds_96 rfl ?_
                  refine a_istore (L' := [(7, .int r96), (6, .int x59), (0, .ref (gad G 0)), (1, .int x1), (2, .int x2), (3, .int x3), (4, .int x4), (5, .int x5)]) ho dX11_kinds_99 rfl (by decide) rfl ?_
                  refine a_iload ho dX11_kinds_101 rfl 7 rfl ?_
                  refine a_iconst (v := (-1)) ho dX11_kinds_103 rfl (by decide) ?_
                  refine a_icmp_ne (tgt := 110) ho dX11_kinds_104 rfl rfl (fun hc104 => ?_) (fun hc104 => ?_)
                  · replace h := if_f hc104 h
                    refine a_iload ho dX11_kinds_110 rfl 0 rfl ?_
                    refine a_if_ne (tgt := 120) ho dX11_kinds_112 rfl rfl (fun hc112 => ?_) (fun hc112 => ?_)
                    · replace h := if_f hc112 h
                      refine a_iload ho dX11_kinds_120 rfl 0 rfl ?_
                      refine a_iload ho dX11_kinds_122 rfl 7 rfl ?_
                      obtain ⟨r124, hq124, h⟩ := ob_el h
                      refine a_callSi ho vy_X3_bestTry ml_X11_314 (C_X3_bestTry hq124) rfl rfl (by decide) (Nat.le_of_ble_eq_true rfl) dX11_kinds_124 rfl ?_
                      exact a_iret ho dX11_kinds_127 (rI hr0 (ro_el h)) hs0
                    · replace h := if_t hc112 h
                      refine a_bipush (v := (-4)) ho dX11_kinds_115 rfl (by decide) ?_
                      refine a_goto (tgt := 127) ho dX11_kinds_117 rfl ?_
                      exact a_iret ho dX11_kinds_127 (rI hr0 (ro_el h)) hs0
                  · replace h := if_t hc104 h
                    refine a_iload ho dX11_kinds_107 rfl 0 rfl ?_
                    exact a_iret ho dX11_kinds_109 (rI hr0 (ro_el h)) hs0
                · replace h := if_t hc81 h
                  refine a_bipush (v := (-2)) ho dX11_kinds_84 rfl (by decide) ?_
                  exact a_iret ho dX11_kinds_86 (rI hr0 (ro_el h)) hs0
              · replace h := if_f hc63 h
                refine a_iload ho dX11_kinds_66 rfl 0 rfl ?_
                exact a_iret ho dX11_kinds_68 (rI hr0 (ro_el h)) hs0
            · replace h := if_f hc39 h
              refine a_iconst (v := (-1)) ho dX11_kinds_42 rfl (by decide) ?_
              exact a_iret ho dX11_kinds_43 (rI hr0 (ro_el h)) hs0
        · replace h := if_f hc24 h
          refine a_iconst (v := (-1)) ho dX11_kinds_27 rfl (by decide) ?_
          exact a_iret ho dX11_kinds_28 (rI hr0 (ro_el h)) hs0
theorem C_X11_kinds {l : Launch} {X : gX} {σ : gS} {r0 : Int32} {a1 : Int32} {a2 : Int32} {a3 : Int32} {a4 : Int32} {a5 : Int32} (h : F_X11_kinds_0 a1 a2 a3 a4 a5 σ = some r0) : gCt l X yX11_kinds (.code yX11_kinds cX11_kinds 8 (some .int)) 5 [.ref (X.2.2.1 0), .int a1, .int a2, .int a3, .int a4, .int a5] σ (some (.int r0)) σ :=
  gCt_of cX11_kinds (by decide) (Nat.le_of_ble_eq_true rfl) (fun G hl hX hv hs ho => by subst hl; subst hX; exact a_sub [0, 1, 2, 3, 4, 5] rfl (T_X11_kinds_0 ho hv hs h))
theorem T_X11_wishes_113 {G : gM} (ho : gOk G "WaxCloth" cX11_wishes 3 (some .int) 7) {r0 : Int32} (hr0 : gv0 G = some (.int r0)) {σ : gS} (hs0 : gs0 G = σ) {g60 : Int32 → Int32 → Int32 → Int32 → gS → Option Int32} (hg60 : ∀ (x1 : Int32) (x3 : Int32) (x5 : Int32) (x6 : Int32), g60 x1 x3 x5 x6 σ = some r0 → gAt G 60 [(0, .ref (gad G 0)), (1, .int x1), (3, .int x3), (5, .int x5), (6, .int x6)] [] σ) {x1 : Int32} {x3 : Int32} {x5 : Int32} {x6 : Int32} (h : F_X11_wishes_113 g60 x1 x3 x5 x6 σ = some r0) : gAt G 113 [(0, .ref (gad G 0)), (1, .int x1), (3, .int x3), (5, .int x5), (6, .int x6)] [] σ := by
  unfold F_X11_wishes_113 at h
  obtain ⟨x113, hb113, h⟩ := bd_el h
  refine a_iinc (L' := [(6, .int x113), (0, .ref (gad G 0)), (1, .int x1), (3, .int x3), (5, .int x5)]) ho dX11_wishes_113 rfl 4 rfl hb113 (by decide) rfl ?_
  refine a_goto (tgt := 60) ho dX11_wishes_116 rfl ?_
  exact a_sub [1, 2, 3, 4, 0] rfl (hg60 _ _ _ _ h)
theorem T_X11_wishes_60 {G : gM} (ho : gOk G "WaxCloth" cX11_wishes 3 (some .int) 7) {r0 : Int32} (hr0 : gv0 G = some (.int r0)) {σ : gS} (hs0 : gs0 G = σ) : ∀ (n : Nat) (x1 : Int32) (x3 : Int32) (x5 : Int32) (x6 : Int32), F_X11_wishes_60 n x1 x3 x5 x6 σ = some r0 → gAt G 60 [(0, .ref (gad G 0)), (1, .int x1), (3, .int x3), (5, .int x5), (6, .int x6)] [] σ := by
  intro n
  induction n with
  | zero => intro x1 x3 x5 x6 h; cases h
  | succ n ih =>
    intro x1 x3 x5 x6 h
    unfold F_X11_wishes_60 at h
    refine a_iload ho dX11_wishes_60 rfl 4 rfl ?_
    refine a_aload_n ho dX11_wishes_62 rfl rfl 0 rfl ?_
    refine a_getR ho fl_X11_28 o_0 fr_9_2 dX11_wishes_63 rfl ?_
    refine a_getI ho fl_X11_107 o_10 (ff_2_0 _ o_10) dX11_wishes_66 rfl ?_
    refine a_icmp_ge (tgt := 119) ho dX11_wishes_69 rfl rfl (fun hc69 => ?_) (fun hc69 => ?_)
    · replace h := if_t hc69 h
      refine a_iload ho dX11_wishes_119 rfl 3 rfl ?_
      exact a_iret ho dX11_wishes_121 (rI hr0 (ro_el h)) hs0
    · replace h := if_f hc69 h
      refine a_aload_n ho dX11_wishes_72 rfl rfl 0 rfl ?_
      refine a_getR ho fl_X11_45 o_0 fr_9_5 dX11_wishes_73 rfl ?_
      refine a_iload_n ho dX11_wishes_76 rfl rfl 1 rfl ?_
      obtain ⟨hk77, h⟩ := ck_el h
      refine a_aald ho (by decide) r_55 hk77 (ar_55 _ (rng_lt hk77)) dX11_wishes_77 rfl ?_
      refine a_getR ho fl_X11_279 (at_55 _ (rng_lt hk77)) (fr_7_2 _ (at_55 _ (rng_lt hk77))) dX11_wishes_78 rfl ?_
      refine a_iload_n ho dX11_wishes_81 rfl rfl 2 rfl ?_
      refine a_iload ho dX11_wishes_82 rfl 4 rfl ?_
      refine a_iadd ho dX11_wishes_84 rfl ?_
      obtain ⟨hk85, h⟩ := ck_el h
      refine a_lald ho (fa_7_2 _ (at_55 _ (rng_lt hk77))) hk85 dX11_wishes_85 rfl ?_
      refine a_aload_n ho dX11_wishes_86 rfl rfl 0 rfl ?_
      refine a_getR ho fl_X11_28 o_0 fr_9_2 dX11_wishes_87 rfl ?_
      refine a_getR (q := 13) ho fl_X11_113 o_10 (fr_2_6 _ o_10) dX11_wishes_90 rfl ?_
      refine a_iload ho dX11_wishes_93 rfl 4 rfl ?_
      obtain ⟨hk95, h⟩ := ck_el h
      refine a_iald ho i_13 hk95 dX11_wishes_95 rfl ?_
      obtain ⟨r96, hq96, h⟩ := ob_el h
      refine a_callSi ho vy_X9_hueOf ml_X11_128 (C_X9_hueOf hq96) rfl rfl (by decide) (Nat.le_of_ble_eq_true rfl) dX11_wishes_96 rfl ?_
      refine a_i2l ho dX11_wishes_99 rfl ?_
      refine a_lcmp ho dX11_wishes_100 rfl ?_
      refine a_if_ne (tgt := 113) ho dX11_wishes_101 rfl rfl (fun hc101 => ?_) (fun hc101 => ?_)
      · replace h := if_f hc101 h
        exact a_sub [0, 1, 2, 3, 4] rfl (T_X11_wishes_113 ho hr0 hs0 ih h)
      · replace h := if_t hc101 h
        refine a_iload ho dX11_wishes_104 rfl 3 rfl ?_
        refine a_iconst (v := 1) ho dX11_wishes_106 rfl (by decide) ?_
        refine a_iload ho dX11_wishes_107 rfl 4 rfl ?_
        refine a_ishl ho dX11_wishes_109 rfl ?_
        refine a_ior ho dX11_wishes_110 rfl ?_
        obtain ⟨x111, hb111, h⟩ := bd_el h
        refine a_nmI hb111 ?_
        refine a_istore (L' := [(5, .int x111), (0, .ref (gad G 0)), (1, .int x1), (3, .int x3), (6, .int x6)]) ho dX11_wishes_111 rfl (by decide) rfl ?_
        exact a_sub [1, 2, 3, 0, 4] rfl (T_X11_wishes_113 ho hr0 hs0 ih h)
theorem T_X11_wishes_0 {G : gM} (ho : gOk G "WaxCloth" cX11_wishes 3 (some .int) 7) {r0 : Int32} (hr0 : gv0 G = some (.int r0)) {σ : gS} (hs0 : gs0 G = σ) {x1 : Int32} {x2 : Int32} {x3 : Int32} (h : F_X11_wishes_0 x1 x2 x3 σ = some r0) : gAt G 0 [(0, .ref (gad G 0)), (1, .int x1), (2, .int x2), (3, .int x3)] [] σ := by
  unfold F_X11_wishes_0 at h
  refine a_aload_n ho dX11_wishes_0 rfl rfl 0 rfl ?_
  refine a_getR ho fl_X11_28 o_0 fr_9_2 dX11_wishes_1 rfl ?_
  refine a_callVi ho vy_X2_stands ml_X11_192 o_10 (C_X2_stands o_10) rfl rfl (by decide) (Nat.le_of_ble_eq_true rfl) dX11_wishes_4 rfl ?_
  refine a_if_eq (tgt := 24) ho dX11_wishes_7 rfl rfl (fun hc7 => ?_) (fun hc7 => ?_)
  · replace h := if_t hc7 h
    refine a_iconst (v := (-1)) ho dX11_wishes_24 rfl (by decide) ?_
    exact a_iret ho dX11_wishes_25 (rI hr0 (ro_el h)) hs0
  · replace h := if_f hc7 h
    refine a_iload_n ho dX11_wishes_10 rfl rfl 1 rfl ?_
    refine a_callSi ho vy_X11_isSheet ml_X11_248 (C_X11_isSheet x1) rfl rfl (by decide) (Nat.le_of_ble_eq_true rfl) dX11_wishes_11 rfl ?_
    refine a_if_eq (tgt := 24) ho dX11_wishes_14 rfl rfl (fun hc14 => ?_) (fun hc14 => ?_)
    · replace h := if_t hc14 h
      refine a_iconst (v := (-1)) ho dX11_wishes_24 rfl (by decide) ?_
      exact a_iret ho dX11_wishes_25 (rI hr0 (ro_el h)) hs0
    · replace h := if_f hc14 h
      refine a_iload_n ho dX11_wishes_17 rfl rfl 2 rfl ?_
      refine a_callSi ho vy_X8_isLane ml_X11_251 (C_X8_isLane x2) rfl rfl (by decide) (Nat.le_of_ble_eq_true rfl) dX11_wishes_18 rfl ?_
      refine a_if_ne (tgt := 26) ho dX11_wishes_21 rfl rfl (fun hc21 => ?_) (fun hc21 => ?_)
      · replace h := if_f hc21 h
        refine a_aload_n ho dX11_wishes_26 rfl rfl 0 rfl ?_
        refine a_getR ho fl_X11_45 o_0 fr_9_5 dX11_wishes_27 rfl ?_
        refine a_iload_n ho dX11_wishes_30 rfl rfl 1 rfl ?_
        obtain ⟨hk31, h⟩ := ck_el h
        refine a_aald ho (by decide) r_55 hk31 (ar_55 _ (rng_lt hk31)) dX11_wishes_31 rfl ?_
        refine a_iload_n ho dX11_wishes_32 rfl rfl 2 rfl ?_
        refine a_iload_n ho dX11_wishes_33 rfl rfl 3 rfl ?_
        refine a_aload_n ho dX11_wishes_34 rfl rfl 0 rfl ?_
        refine a_getR ho fl_X11_28 o_0 fr_9_2 dX11_wishes_35 rfl ?_
        refine a_getI ho fl_X11_107 o_10 (ff_2_0 _ o_10) dX11_wishes_38 rfl ?_
        refine a_callVi ho vy_X8_refusal ml_X11_267 (at_55 _ (rng_lt hk31)) (C_X8_refusal (at_55 _ (rng_lt hk31)) x2 x3 (σ.1 10 0)) rfl rfl (by decide) (Nat.le_of_ble_eq_true rfl) dX11_wishes_41 rfl ?_
        obtain ⟨x44, hb44, h⟩ := bd_el h
        refine a_nmI hb44 ?_
        refine a_istore (L' := [(4, .int x44), (0, .ref (gad G 0)), (1, .int x1), (2, .int x2), (3, .int x3)]) ho dX11_wishes_44 rfl (by decide) rfl ?_
        refine a_iload ho dX11_wishes_46 rfl 0 rfl ?_
        refine a_if_eq (tgt := 54) ho dX11_wishes_48 rfl rfl (fun hc48 => ?_) (fun hc48 => ?_)
        · replace h := if_t hc48 h
          refine a_iconst (v := 0) ho dX11_wishes_54 rfl (by decide) ?_
          refine a_istore (L' := [(5, .int 0), (4, .int x44), (0, .ref (gad G 0)), (1, .int x1), (2, .int x2), (3, .int x3)]) ho dX11_wishes_55 rfl (by decide) rfl ?_
          refine a_iconst (v := 0) ho dX11_wishes_57 rfl (by decide) ?_
          refine a_istore (L' := [(6, .int 0), (5, .int 0), (4, .int x44), (0, .ref (gad G 0)), (1, .int x1), (2, .int x2), (3, .int x3)]) ho dX11_wishes_58 rfl (by decide) rfl ?_
          exact a_sub [3, 4, 6, 1, 0] rfl (T_X11_wishes_60 ho hr0 hs0 _ _ _ _ _ h)
        · replace h := if_f hc48 h
          refine a_iload ho dX11_wishes_51 rfl 0 rfl ?_
          exact a_iret ho dX11_wishes_53 (rI hr0 (ro_el h)) hs0
      · replace h := if_t hc21 h
        refine a_iconst (v := (-1)) ho dX11_wishes_24 rfl (by decide) ?_
        exact a_iret ho dX11_wishes_25 (rI hr0 (ro_el h)) hs0
theorem C_X11_wishes {l : Launch} {X : gX} {σ : gS} {r0 : Int32} {a1 : Int32} {a2 : Int32} {a3 : Int32} (h : F_X11_wishes_0 a1 a2 a3 σ = some r0) : gCt l X yX11_wishes (.code yX11_wishes cX11_wishes 7 (some .int)) 3 [.ref (X.2.2.1 0), .int a1, .int a2, .int a3] σ (some (.int r0)) σ :=
  gCt_of cX11_wishes (by decide) (Nat.le_of_ble_eq_true rfl) (fun G hl hX hv hs ho => by subst hl; subst hX; exact a_sub [0, 1, 2, 3] rfl (T_X11_wishes_0 ho hv hs h))
theorem T_X11_count_0 {G : gM} (ho : gOk G "WaxCloth" cX11_count 5 (some .int) 2) {r0 : Int32} (hr0 : gv0 G = some (.int r0)) {σ : gS} (hs0 : gs0 G = σ) {x1 : Int32} (h : F_X11_count_0 x1 σ = some r0) : gAt G 0 [(0, .ref (gad G 0)), (1, .int x1)] [] σ := by
  unfold F_X11_count_0 at h
  refine a_iload_n ho dX11_count_0 rfl rfl 1 rfl ?_
  by_cases hw1_0 : x1 = 0
  · replace h := if_t hw1_0 h
    refine a_tin (tgt := 52) ho 0 hw1_0 dX11_count_1 (by decide) (by decide) rfl rfl ?_
    refine a_aload_n ho dX11_count_52 rfl rfl 0 rfl ?_
    refine a_getR ho fl_X11_28 o_0 fr_9_2 dX11_count_53 rfl ?_
    refine a_getI ho fl_X11_107 o_10 (ff_2_0 _ o_10) dX11_count_56 rfl ?_
    exact a_iret ho dX11_count_59 (rI hr0 (ro_el h)) hs0
  replace h := if_f hw1_0 h
  by_cases hw1_1 : x1 = 1
  · replace h := if_t hw1_1 h
    refine a_tin (tgt := 60) ho 1 hw1_1 dX11_count_1 (by decide) (by decide) rfl rfl ?_
    refine a_aload_n ho dX11_count_60 rfl rfl 0 rfl ?_
    refine a_getR ho fl_X11_28 o_0 fr_9_2 dX11_count_61 rfl ?_
    refine a_getI ho fl_X11_317 o_10 (ff_2_1 _ o_10) dX11_count_64 rfl ?_
    exact a_iret ho dX11_count_67 (rI hr0 (ro_el h)) hs0
  replace h := if_f hw1_1 h
  by_cases hw1_2 : x1 = 2
  · replace h := if_t hw1_2 h
    refine a_tin (tgt := 68) ho 2 hw1_2 dX11_count_1 (by decide) (by decide) rfl rfl ?_
    refine a_aload_n ho dX11_count_68 rfl rfl 0 rfl ?_
    refine a_getR ho fl_X11_28 o_0 fr_9_2 dX11_count_69 rfl ?_
    refine a_getI ho fl_X11_320 o_10 (ff_2_2 _ o_10) dX11_count_72 rfl ?_
    exact a_iret ho dX11_count_75 (rI hr0 (ro_el h)) hs0
  replace h := if_f hw1_2 h
  by_cases hw1_3 : x1 = 3
  · replace h := if_t hw1_3 h
    refine a_tin (tgt := 76) ho 3 hw1_3 dX11_count_1 (by decide) (by decide) rfl rfl ?_
    refine a_aload_n ho dX11_count_76 rfl rfl 0 rfl ?_
    refine a_getR ho fl_X11_28 o_0 fr_9_2 dX11_count_77 rfl ?_
    refine a_getI ho fl_X11_170 o_10 (ff_2_3 _ o_10) dX11_count_80 rfl ?_
    exact a_iret ho dX11_count_83 (rI hr0 (ro_el h)) hs0
  replace h := if_f hw1_3 h
  by_cases hw1_4 : x1 = 4
  · replace h := if_t hw1_4 h
    refine a_tin (tgt := 84) ho 4 hw1_4 dX11_count_1 (by decide) (by decide) rfl rfl ?_
    refine a_aload_n ho dX11_count_84 rfl rfl 0 rfl ?_
    refine a_getR ho fl_X11_28 o_0 fr_9_2 dX11_count_85 rfl ?_
    refine a_aload_n ho dX11_count_88 rfl rfl 0 rfl ?_
    refine a_getR ho fl_X11_28 o_0 fr_9_2 dX11_count_89 rfl ?_
    refine a_getR (q := 13) ho fl_X11_113 o_10 (fr_2_6 _ o_10) dX11_count_92 rfl ?_
    obtain ⟨r95, hq95, h⟩ := ob_el h
    refine a_callVi ho vy_X2_rightSet ml_X11_181 o_10 (C_X2_rightSet i_13 hq95) rfl rfl (by decide) (Nat.le_of_ble_eq_true rfl) dX11_count_95 rfl ?_
    exact a_iret ho dX11_count_98 (rI hr0 (ro_el h)) hs0
  replace h := if_f hw1_4 h
  by_cases hw1_5 : x1 = 5
  · replace h := if_t hw1_5 h
    refine a_tin (tgt := 99) ho 5 hw1_5 dX11_count_1 (by decide) (by decide) rfl rfl ?_
    refine a_aload_n ho dX11_count_99 rfl rfl 0 rfl ?_
    refine a_getR ho fl_X11_28 o_0 fr_9_2 dX11_count_100 rfl ?_
    obtain ⟨r103, hq103, h⟩ := ob_el h
    refine a_callVi ho vy_X2_waxedSet ml_X11_323 o_10 (C_X2_waxedSet hq103) rfl rfl (by decide) (Nat.le_of_ble_eq_true rfl) dX11_count_103 rfl ?_
    exact a_iret ho dX11_count_106 (rI hr0 (ro_el h)) hs0
  replace h := if_f hw1_5 h
  by_cases hw1_6 : x1 = 6
  · replace h := if_t hw1_6 h
    refine a_tin (tgt := 107) ho 6 hw1_6 dX11_count_1 (by decide) (by decide) rfl rfl ?_
    refine a_aload_n ho dX11_count_107 rfl rfl 0 rfl ?_
    refine a_getR ho fl_X11_28 o_0 fr_9_2 dX11_count_108 rfl ?_
    refine a_aload_n ho dX11_count_111 rfl rfl 0 rfl ?_
    refine a_getR ho fl_X11_28 o_0 fr_9_2 dX11_count_112 rfl ?_
    refine a_getR (q := 13) ho fl_X11_113 o_10 (fr_2_6 _ o_10) dX11_count_115 rfl ?_
    obtain ⟨r118, hq118, h⟩ := ob_el h
    refine a_callVi ho vy_X2_darknessOf ml_X11_326 o_10 (C_X2_darknessOf i_13 hq118) rfl rfl (by decide) (Nat.le_of_ble_eq_true rfl) dX11_count_118 rfl ?_
    exact a_iret ho dX11_count_121 (rI hr0 (ro_el h)) hs0
  replace h := if_f hw1_6 h
  by_cases hw1_7 : x1 = 7
  · replace h := if_t hw1_7 h
    refine a_tin (tgt := 122) ho 7 hw1_7 dX11_count_1 (by decide) (by decide) rfl rfl ?_
    refine a_aload_n ho dX11_count_122 rfl rfl 0 rfl ?_
    refine a_getR ho fl_X11_35 o_0 fr_9_3 dX11_count_123 rfl ?_
    refine a_getI ho fl_X11_189 o_16 (ff_3_0 _ o_16) dX11_count_126 rfl ?_
    exact a_iret ho dX11_count_129 (rI hr0 (ro_el h)) hs0
  replace h := if_f hw1_7 h
  by_cases hw1_8 : x1 = 8
  · replace h := if_t hw1_8 h
    refine a_tin (tgt := 130) ho 8 hw1_8 dX11_count_1 (by decide) (by decide) rfl rfl ?_
    refine a_aload_n ho dX11_count_130 rfl rfl 0 rfl ?_
    refine a_getR ho fl_X11_10 o_0 fr_9_0 dX11_count_131 rfl ?_
    refine a_getI ho fl_X11_86 o_1 (ff_8_0 _ o_1) dX11_count_134 rfl ?_
    exact a_iret ho dX11_count_137 (rI hr0 (ro_el h)) hs0
  replace h := if_f hw1_8 h
  refine a_tout (tgt := 138) ho (by have q0 := tI hw1_0 (z := 0) rfl; have q1 := tI hw1_1 (z := 1) rfl; have q2 := tI hw1_2 (z := 2) rfl; have q3 := tI hw1_3 (z := 3) rfl; have q4 := tI hw1_4 (z := 4) rfl; have q5 := tI hw1_5 (z := 5) rfl; have q6 := tI hw1_6 (z := 6) rfl; have q7 := tI hw1_7 (z := 7) rfl; have q8 := tI hw1_8 (z := 8) rfl; omega) dX11_count_1 rfl ?_
  refine a_iconst (v := (-1)) ho dX11_count_138 rfl (by decide) ?_
  exact a_iret ho dX11_count_139 (rI hr0 (ro_el h)) hs0
theorem C_X11_count {l : Launch} {X : gX} {σ : gS} {r0 : Int32} {a1 : Int32} (h : F_X11_count_0 a1 σ = some r0) : gCt l X yX11_count (.code yX11_count cX11_count 2 (some .int)) 5 [.ref (X.2.2.1 0), .int a1] σ (some (.int r0)) σ :=
  gCt_of cX11_count (by decide) (Nat.le_of_ble_eq_true rfl) (fun G hl hX hv hs ho => by subst hl; subst hX; exact a_sub [0, 1] rfl (T_X11_count_0 ho hv hs h))
theorem T_X12_in_0 {G : gM} (ho : gOk G "WaxClothModel" cX12_in 1 (some .boolean) 6) {r0 : Int32} (hr0 : gv0 G = some (.int r0)) {σ : gS} (hs0 : gs0 G = σ) {x0 : Int64} {x2 : Int64} {x4 : Int64} (h : F_X12_in_0 x0 x2 x4 = r0) : gAt G 0 [(0, .long x0), (2, .long x2), (4, .long x4)] [] σ := by
  unfold F_X12_in_0 at h
  refine a_lload_n ho dX12_in_0 rfl rfl 0 rfl ?_
  refine a_lload_n ho dX12_in_1 rfl rfl 1 rfl ?_
  refine a_lcmp ho dX12_in_2 rfl ?_
  refine a_if_lt (tgt := 17) ho dX12_in_3 rfl rfl (fun hc3 => ?_) (fun hc3 => ?_)
  · replace h := if_t hc3 h
    refine a_iconst (v := 0) ho dX12_in_17 rfl (by decide) ?_
    exact a_zret ho dX12_in_18 rfl (rI hr0 h) hs0
  · replace h := if_f hc3 h
    refine a_lload_n ho dX12_in_6 rfl rfl 0 rfl ?_
    refine a_lload ho dX12_in_7 rfl 2 rfl ?_
    refine a_lcmp ho dX12_in_9 rfl ?_
    refine a_if_gt (tgt := 17) ho dX12_in_10 rfl rfl (fun hc10 => ?_) (fun hc10 => ?_)
    · replace h := if_t hc10 h
      refine a_iconst (v := 0) ho dX12_in_17 rfl (by decide) ?_
      exact a_zret ho dX12_in_18 rfl (rI hr0 h) hs0
    · replace h := if_f hc10 h
      refine a_iconst (v := 1) ho dX12_in_13 rfl (by decide) ?_
      refine a_goto (tgt := 18) ho dX12_in_14 rfl ?_
      exact a_zret ho dX12_in_18 rfl (rI hr0 h) hs0
theorem C_X12_in {l : Launch} {X : gX} {σ : gS} (a0 : Int64) (a2 : Int64) (a4 : Int64) : gCt l X yX12_in (.code yX12_in cX12_in 6 (some .boolean)) 1 [.long a0, .long a2, .long a4] σ (some (.int (F_X12_in_0 a0 a2 a4))) σ :=
  gCt_of cX12_in (by decide) (Nat.le_of_ble_eq_true rfl) (fun G hl hX hv hs ho => by subst hl; subst hX; exact a_sub [0, 1, 2] rfl (T_X12_in_0 ho hv hs rfl))
theorem T_X12_has_0 {G : gM} (ho : gOk G "WaxClothModel" cX12_has 1 (some .boolean) 2) {r0 : Int32} (hr0 : gv0 G = some (.int r0)) {σ : gS} (hs0 : gs0 G = σ) {x0 : Int32} {x1 : Int32} (h : F_X12_has_0 x0 x1 = r0) : gAt G 0 [(0, .int x0), (1, .int x1)] [] σ := by
  unfold F_X12_has_0 at h
  refine a_iload_n ho dX12_has_0 rfl rfl 0 rfl ?_
  refine a_iload_n ho dX12_has_1 rfl rfl 1 rfl ?_
  refine a_ishr ho dX12_has_2 rfl ?_
  refine a_iconst (v := 1) ho dX12_has_3 rfl (by decide) ?_
  refine a_iand ho dX12_has_4 rfl ?_
  refine a_iconst (v := 1) ho dX12_has_5 rfl (by decide) ?_
  refine a_icmp_ne (tgt := 13) ho dX12_has_6 rfl rfl (fun hc6 => ?_) (fun hc6 => ?_)
  · replace h := if_f hc6 h
    refine a_iconst (v := 0) ho dX12_has_13 rfl (by decide) ?_
    exact a_zret ho dX12_has_14 rfl (rI hr0 h) hs0
  · replace h := if_t hc6 h
    refine a_iconst (v := 1) ho dX12_has_9 rfl (by decide) ?_
    refine a_goto (tgt := 14) ho dX12_has_10 rfl ?_
    exact a_zret ho dX12_has_14 rfl (rI hr0 h) hs0
theorem C_X12_has {l : Launch} {X : gX} {σ : gS} (a0 : Int32) (a1 : Int32) : gCt l X yX12_has (.code yX12_has cX12_has 2 (some .boolean)) 1 [.int a0, .int a1] σ (some (.int (F_X12_has_0 a0 a1))) σ :=
  gCt_of cX12_has (by decide) (Nat.le_of_ble_eq_true rfl) (fun G hl hX hv hs ho => by subst hl; subst hX; exact a_sub [0, 1] rfl (T_X12_has_0 ho hv hs rfl))
theorem T_X12_bits_4 {G : gM} (ho : gOk G "WaxClothModel" cX12_bits 1 (some .int) 3) {r0 : Int32} (hr0 : gv0 G = some (.int r0)) {σ : gS} (hs0 : gs0 G = σ) : ∀ (n : Nat) (x1 : Int32) (x2 : Int32), F_X12_bits_4 n x1 x2 = some r0 → gAt G 4 [(1, .int x1), (2, .int x2)] [] σ := by
  intro n
  induction n with
  | zero => intro x1 x2 h; cases h
  | succ n ih =>
    intro x1 x2 h
    unfold F_X12_bits_4 at h
    refine a_iload_n ho dX12_bits_4 rfl rfl 1 rfl ?_
    refine a_if_eq (tgt := 20) ho dX12_bits_5 rfl rfl (fun hc5 => ?_) (fun hc5 => ?_)
    · replace h := if_t hc5 h
      refine a_iload_n ho dX12_bits_20 rfl rfl 0 rfl ?_
      exact a_iret ho dX12_bits_21 (rI hr0 (ro_el h)) hs0
    · replace h := if_f hc5 h
      obtain ⟨x8, hb8, h⟩ := bd_el h
      refine a_iinc (L' := [(1, .int x8), (2, .int x2)]) ho dX12_bits_8 rfl 0 rfl hb8 (by decide) rfl ?_
      refine a_iload_n ho dX12_bits_11 rfl rfl 1 rfl ?_
      refine a_iload_n ho dX12_bits_12 rfl rfl 1 rfl ?_
      refine a_iconst (v := 1) ho dX12_bits_13 rfl (by decide) ?_
      refine a_isub ho dX12_bits_14 rfl ?_
      refine a_iand ho dX12_bits_15 rfl ?_
      obtain ⟨x16, hb16, h⟩ := bd_el h
      refine a_nmI hb16 ?_
      refine a_istore_n (L' := [(2, .int x16), (1, .int x8)]) ho dX12_bits_16 rfl rfl (by decide) rfl ?_
      refine a_goto (tgt := 4) ho dX12_bits_17 rfl ?_
      exact a_sub [1, 0] rfl (ih _ _ h)
theorem T_X12_bits_0 {G : gM} (ho : gOk G "WaxClothModel" cX12_bits 1 (some .int) 3) {r0 : Int32} (hr0 : gv0 G = some (.int r0)) {σ : gS} (hs0 : gs0 G = σ) {x0 : Int32} (h : F_X12_bits_0 x0 = some r0) : gAt G 0 [(0, .int x0)] [] σ := by
  unfold F_X12_bits_0 at h
  refine a_iconst (v := 0) ho dX12_bits_0 rfl (by decide) ?_
  refine a_istore_n (L' := [(1, .int 0), (0, .int x0)]) ho dX12_bits_1 rfl rfl (by decide) rfl ?_
  refine a_iload_n ho dX12_bits_2 rfl rfl 1 rfl ?_
  refine a_istore_n (L' := [(2, .int x0), (1, .int 0), (0, .int x0)]) ho dX12_bits_3 rfl rfl (by decide) rfl ?_
  exact a_sub [1, 0] rfl (T_X12_bits_4 ho hr0 hs0 _ _ _ h)
theorem C_X12_bits {l : Launch} {X : gX} {σ : gS} {r0 : Int32} {a0 : Int32} (h : F_X12_bits_0 a0 = some r0) : gCt l X yX12_bits (.code yX12_bits cX12_bits 3 (some .int)) 1 [.int a0] σ (some (.int r0)) σ :=
  gCt_of cX12_bits (by decide) (Nat.le_of_ble_eq_true rfl) (fun G hl hX hv hs ho => by subst hl; subst hX; exact a_sub [0] rfl (T_X12_bits_0 ho hv hs h))
theorem T_X12_copies_3 {G : gM} (ho : gOk G "WaxClothModel" cX12_copies 1 none 6) (hr0 : gv0 G = none) {σ0 : gS} (hs0 : gs0 G = σ0) {c0 : Nat} {c2 : Nat} (hc0 : isI c0 (ln c0)) (hc2 : isI c2 (ln c2)) : ∀ (n : Nat) (x1 : Int32) (x3 : Int32) (x4 : Int32) (x5 : Int32) (σ : gS), F_X12_copies_3 c0 c2 n x1 x3 x4 x5 σ = some σ0 → gAt G 3 [(0, .ref (gad G c0)), (1, .int x1), (2, .ref (gad G c2)), (3, .int x3), (4, .int x4), (5, .int x5)] [] σ := by
  intro n
  induction n with
  | zero => intro x1 x3 x4 x5 σ h; cases h
  | succ n ih =>
    intro x1 x3 x4 x5 σ h
    unfold F_X12_copies_3 at h
    refine a_iload ho dX12_copies_3 rfl 5 rfl ?_
    refine a_iload ho dX12_copies_5 rfl 4 rfl ?_
    refine a_icmp_ge (tgt := 28) ho dX12_copies_7 rfl rfl (fun hc7 => ?_) (fun hc7 => ?_)
    · replace h := if_t hc7 h
      exact a_vret ho dX12_copies_28 hr0 (rS hs0 (ro_el h))
    · replace h := if_f hc7 h
      refine a_aload_n ho dX12_copies_10 rfl rfl 2 rfl ?_
      refine a_iload_n ho dX12_copies_11 rfl rfl 3 rfl ?_
      refine a_iload ho dX12_copies_12 rfl 5 rfl ?_
      refine a_iadd ho dX12_copies_14 rfl ?_
      refine a_aload_n ho dX12_copies_15 rfl rfl 0 rfl ?_
      refine a_iload_n ho dX12_copies_16 rfl rfl 1 rfl ?_
      refine a_iload ho dX12_copies_17 rfl 5 rfl ?_
      refine a_iadd ho dX12_copies_19 rfl ?_
      obtain ⟨hk20, h⟩ := ck_el h
      refine a_iald ho hc0 hk20 dX12_copies_20 rfl ?_
      obtain ⟨hk21, h⟩ := ck_el h
      refine a_iast ho hc2 hk21 dX12_copies_21 rfl ?_
      obtain ⟨σ21, hs21, h⟩ := bd_el h
      refine a_nmS hs21 ?_
      obtain ⟨x22, hb22, h⟩ := bd_el h
      refine a_iinc (L' := [(5, .int x22), (0, .ref (gad G c0)), (1, .int x1), (2, .ref (gad G c2)), (3, .int x3), (4, .int x4)]) ho dX12_copies_22 rfl 5 rfl hb22 (by decide) rfl ?_
      refine a_goto (tgt := 3) ho dX12_copies_25 rfl ?_
      exact a_sub [1, 2, 3, 4, 5, 0] rfl (ih _ _ _ _ _ h)
theorem T_X12_copies_0 {G : gM} (ho : gOk G "WaxClothModel" cX12_copies 1 none 6) (hr0 : gv0 G = none) {σ0 : gS} (hs0 : gs0 G = σ0) {c0 : Nat} {c2 : Nat} (hc0 : isI c0 (ln c0)) (hc2 : isI c2 (ln c2)) {x1 : Int32} {x3 : Int32} {x4 : Int32} {σ : gS} (h : F_X12_copies_0 c0 c2 x1 x3 x4 σ = some σ0) : gAt G 0 [(0, .ref (gad G c0)), (1, .int x1), (2, .ref (gad G c2)), (3, .int x3), (4, .int x4)] [] σ := by
  unfold F_X12_copies_0 at h
  refine a_iconst (v := 0) ho dX12_copies_0 rfl (by decide) ?_
  refine a_istore (L' := [(5, .int 0), (0, .ref (gad G c0)), (1, .int x1), (2, .ref (gad G c2)), (3, .int x3), (4, .int x4)]) ho dX12_copies_1 rfl (by decide) rfl ?_
  exact a_sub [1, 2, 3, 4, 5, 0] rfl (T_X12_copies_3 ho hr0 hs0 hc0 hc2 _ _ _ _ _ _ h)
theorem C_X12_copies {l : Launch} {X : gX} {σ σ0 : gS} {c0 : Nat} {c2 : Nat} (hc0 : isI c0 (ln c0)) (hc2 : isI c2 (ln c2)) {a1 : Int32} {a3 : Int32} {a4 : Int32} (h : F_X12_copies_0 c0 c2 a1 a3 a4 σ = some σ0) : gCt l X yX12_copies (.code yX12_copies cX12_copies 6 none) 1 [.ref (X.2.2.1 c0), .int a1, .ref (X.2.2.1 c2), .int a3, .int a4] σ (none) σ0 :=
  gCt_of cX12_copies (by decide) (Nat.le_of_ble_eq_true rfl) (fun G hl hX hv hs ho => by subst hl; subst hX; exact a_sub [0, 1, 2, 3, 4] rfl (T_X12_copies_0 ho hv hs hc0 hc2 h))
theorem T_X12_less_0 {G : gM} (ho : gOk G "WaxClothModel" cX12_less 1 (some .int) 2) {r0 : Int32} (hr0 : gv0 G = some (.int r0)) {σ : gS} (hs0 : gs0 G = σ) {x0 : Int32} {x1 : Int32} (h : F_X12_less_0 x0 x1 = r0) : gAt G 0 [(0, .int x0), (1, .int x1)] [] σ := by
  unfold F_X12_less_0 at h
  refine a_iload_n ho dX12_less_0 rfl rfl 0 rfl ?_
  refine a_iload_n ho dX12_less_1 rfl rfl 1 rfl ?_
  refine a_icmp_ge (tgt := 9) ho dX12_less_2 rfl rfl (fun hc2 => ?_) (fun hc2 => ?_)
  · replace h := if_t hc2 h
    refine a_iload_n ho dX12_less_9 rfl rfl 1 rfl ?_
    exact a_iret ho dX12_less_10 (rI hr0 h) hs0
  · replace h := if_f hc2 h
    refine a_iload_n ho dX12_less_5 rfl rfl 0 rfl ?_
    refine a_goto (tgt := 10) ho dX12_less_6 rfl ?_
    exact a_iret ho dX12_less_10 (rI hr0 h) hs0
theorem C_X12_less {l : Launch} {X : gX} {σ : gS} (a0 : Int32) (a1 : Int32) : gCt l X yX12_less (.code yX12_less cX12_less 2 (some .int)) 1 [.int a0, .int a1] σ (some (.int (F_X12_less_0 a0 a1))) σ :=
  gCt_of cX12_less (by decide) (Nat.le_of_ble_eq_true rfl) (fun G hl hX hv hs ho => by subst hl; subst hX; exact a_sub [0, 1] rfl (T_X12_less_0 ho hv hs rfl))
theorem T_X12_feed_0 {G : gM} (ho : gOk G "WaxClothModel" cX12_feed 2 (some .int) 2) {r0 : Int32} (hr0 : gv0 G = some (.int r0)) {σ0 : gS} (hs0 : gs0 G = σ0) {x1 : Int32} {σ : gS} (h : F_X12_feed_0 x1 σ = some (r0, σ0)) : gAt G 0 [(0, .ref (gad G 82)), (1, .int x1)] [] σ := by
  unfold F_X12_feed_0 at h
  refine a_iload_n ho dX12_feed_0 rfl rfl 1 rfl ?_
  refine a_i2l ho dX12_feed_1 rfl ?_
  refine a_lconst (v := 0) ho dX12_feed_2 rfl (by decide) ?_
  refine a_ldc2 ho dX12_feed_3 rfl kk_X12_57 ?_
  refine a_callSi ho vy_X12_in ml_X12_59 (C_X12_in (Int32.toInt64 x1) 0 255) rfl rfl (by decide) (Nat.le_of_ble_eq_true rfl) dX12_feed_6 rfl ?_
  refine a_if_ne (tgt := 14) ho dX12_feed_9 rfl rfl (fun hc9 => ?_) (fun hc9 => ?_)
  · replace h := if_f hc9 h
    refine a_aload_n ho dX12_feed_14 rfl rfl 0 rfl ?_
    refine a_getI ho fl_X12_63 o_82 (ff_10_11 _ o_82) dX12_feed_15 rfl ?_
    refine a_bipush (v := 80) ho dX12_feed_18 rfl (by decide) ?_
    refine a_icmp_ne (tgt := 26) ho dX12_feed_20 rfl rfl (fun hc20 => ?_) (fun hc20 => ?_)
    · replace h := if_f hc20 h
      refine a_aload_n ho dX12_feed_26 rfl rfl 0 rfl ?_
      refine a_getR ho fl_X12_35 o_82 fr_10_10 dX12_feed_27 rfl ?_
      refine a_aload_n ho dX12_feed_30 rfl rfl 0 rfl ?_
      refine a_getI ho fl_X12_63 o_82 (ff_10_11 _ o_82) dX12_feed_31 rfl ?_
      refine a_iload_n ho dX12_feed_34 rfl rfl 1 rfl ?_
      obtain ⟨hk35, h⟩ := ck_el h
      refine a_iast ho i_91 hk35 dX12_feed_35 rfl ?_
      obtain ⟨σ35, hs35, h⟩ := bd_el h
      refine a_nmS hs35 ?_
      refine a_aload_n ho dX12_feed_36 rfl rfl 0 rfl ?_
      refine a_dup ho dX12_feed_37 rfl rfl ?_
      refine a_getI ho fl_X12_63 o_82 (ff_10_11 _ o_82) dX12_feed_38 rfl ?_
      refine a_iconst (v := 1) ho dX12_feed_41 rfl (by decide) ?_
      refine a_iadd ho dX12_feed_42 rfl ?_
      refine a_putI ho fp_X12_63 o_82 (ff_10_11 _ o_82) dX12_feed_43 rfl ?_
      obtain ⟨σ43, hs43, h⟩ := bd_el h
      refine a_nmS hs43 ?_
      refine a_aload_n ho dX12_feed_46 rfl rfl 0 rfl ?_
      refine a_getI ho fl_X12_63 o_82 (ff_10_11 _ o_82) dX12_feed_47 rfl ?_
      exact a_iret ho dX12_feed_50 (rI hr0 (re_el h).1) (rS hs0 (re_el h).2)
    · replace h := if_t hc20 h
      refine a_bipush (v := (-3)) ho dX12_feed_23 rfl (by decide) ?_
      exact a_iret ho dX12_feed_25 (rI hr0 (re_el h).1) (rS hs0 (re_el h).2)
  · replace h := if_t hc9 h
    refine a_iconst (v := (-1)) ho dX12_feed_12 rfl (by decide) ?_
    exact a_iret ho dX12_feed_13 (rI hr0 (re_el h).1) (rS hs0 (re_el h).2)
theorem C_X12_feed {l : Launch} {X : gX} {σ σ0 : gS} {r0 : Int32} {a1 : Int32} (h : F_X12_feed_0 a1 σ = some (r0, σ0)) : gCt l X yX12_feed (.code yX12_feed cX12_feed 2 (some .int)) 2 [.ref (X.2.2.1 82), .int a1] σ (some (.int r0)) σ0 :=
  gCt_of cX12_feed (by decide) (Nat.le_of_ble_eq_true rfl) (fun G hl hX hv hs ho => by subst hl; subst hX; exact a_sub [0, 1] rfl (T_X12_feed_0 ho hv hs h))
theorem T_X12_here_0 {G : gM} (ho : gOk G "WaxClothModel" cX12_here 1 (some .int) 1) {r0 : Int32} (hr0 : gv0 G = some (.int r0)) {σ : gS} (hs0 : gs0 G = σ) (h : F_X12_here_0 σ = some r0) : gAt G 0 [(0, .ref (gad G 82))] [] σ := by
  unfold F_X12_here_0 at h
  refine a_aload_n ho dX12_here_0 rfl rfl 0 rfl ?_
  refine a_getI ho fl_X12_67 o_82 (ff_10_15 _ o_82) dX12_here_1 rfl ?_
  refine a_aload_n ho dX12_here_4 rfl rfl 0 rfl ?_
  refine a_getI ho fl_X12_63 o_82 (ff_10_11 _ o_82) dX12_here_5 rfl ?_
  refine a_icmp_ge (tgt := 23) ho dX12_here_8 rfl rfl (fun hc8 => ?_) (fun hc8 => ?_)
  · replace h := if_t hc8 h
    refine a_iconst (v := (-1)) ho dX12_here_23 rfl (by decide) ?_
    exact a_iret ho dX12_here_24 (rI hr0 (ro_el h)) hs0
  · replace h := if_f hc8 h
    refine a_aload_n ho dX12_here_11 rfl rfl 0 rfl ?_
    refine a_getR ho fl_X12_35 o_82 fr_10_10 dX12_here_12 rfl ?_
    refine a_aload_n ho dX12_here_15 rfl rfl 0 rfl ?_
    refine a_getI ho fl_X12_67 o_82 (ff_10_15 _ o_82) dX12_here_16 rfl ?_
    obtain ⟨hk19, h⟩ := ck_el h
    refine a_iald ho i_91 hk19 dX12_here_19 rfl ?_
    refine a_goto (tgt := 24) ho dX12_here_20 rfl ?_
    exact a_iret ho dX12_here_24 (rI hr0 (ro_el h)) hs0
theorem C_X12_here {l : Launch} {X : gX} {σ : gS} {r0 : Int32} (h : F_X12_here_0 σ = some r0) : gCt l X yX12_here (.code yX12_here cX12_here 1 (some .int)) 1 [.ref (X.2.2.1 82)] σ (some (.int r0)) σ :=
  gCt_of cX12_here (by decide) (Nat.le_of_ble_eq_true rfl) (fun G hl hX hv hs ho => by subst hl; subst hX; exact a_sub [0] rfl (T_X12_here_0 ho hv hs h))
theorem T_X12_eats_28 {G : gM} (ho : gOk G "WaxClothModel" cX12_eats 2 (some .boolean) 3) {r0 : Int32} (hr0 : gv0 G = some (.int r0)) {σ0 : gS} (hs0 : gs0 G = σ0) {x2 : Int32} {y0 : Int32} {y1 : Int32} {σ : gS} (h : F_X12_eats_28 x2 y0 y1 σ = some (r0, σ0)) : gAt G 28 [(2, .int x2)] [.int y0, .int y1, .ref (gad G 82)] σ := by
  unfold F_X12_eats_28 at h
  refine a_iadd ho dX12_eats_28 rfl ?_
  refine a_putI ho fp_X12_67 o_82 (ff_10_15 _ o_82) dX12_eats_29 rfl ?_
  obtain ⟨σ29, hs29, h⟩ := bd_el h
  refine a_nmS hs29 ?_
  refine a_iload_n ho dX12_eats_32 rfl rfl 0 rfl ?_
  obtain ⟨hk33, h⟩ := ck_el h
  exact a_zret ho dX12_eats_33 (nb_n hk33) (rI hr0 (re_el h).1) (rS hs0 (re_el h).2)
theorem T_X12_eats_13 {G : gM} (ho : gOk G "WaxClothModel" cX12_eats 2 (some .boolean) 3) {r0 : Int32} (hr0 : gv0 G = some (.int r0)) {σ0 : gS} (hs0 : gs0 G = σ0) {y0 : Int32} {σ : gS} (h : F_X12_eats_13 y0 σ = some (r0, σ0)) : gAt G 13 [(0, .ref (gad G 82))] [.int y0] σ := by
  unfold F_X12_eats_13 at h
  refine a_istore_n (L' := [(2, .int y0), (0, .ref (gad G 82))]) ho dX12_eats_13 rfl rfl (by decide) rfl ?_
  refine a_aload_n ho dX12_eats_14 rfl rfl 1 rfl ?_
  refine a_dup ho dX12_eats_15 rfl rfl ?_
  refine a_getI ho fl_X12_67 o_82 (ff_10_15 _ o_82) dX12_eats_16 rfl ?_
  refine a_iload_n ho dX12_eats_19 rfl rfl 0 rfl ?_
  refine a_if_eq (tgt := 27) ho dX12_eats_20 rfl rfl (fun hc20 => ?_) (fun hc20 => ?_)
  · replace h := if_t hc20 h
    refine a_iconst (v := 0) ho dX12_eats_27 rfl (by decide) ?_
    exact a_sub [0] rfl (T_X12_eats_28 ho hr0 hs0 h)
  · replace h := if_f hc20 h
    refine a_iconst (v := 1) ho dX12_eats_23 rfl (by decide) ?_
    refine a_goto (tgt := 28) ho dX12_eats_24 rfl ?_
    exact a_sub [0] rfl (T_X12_eats_28 ho hr0 hs0 h)
theorem T_X12_eats_0 {G : gM} (ho : gOk G "WaxClothModel" cX12_eats 2 (some .boolean) 3) {r0 : Int32} (hr0 : gv0 G = some (.int r0)) {σ0 : gS} (hs0 : gs0 G = σ0) {x1 : Int32} {σ : gS} (h : F_X12_eats_0 x1 σ = some (r0, σ0)) : gAt G 0 [(0, .ref (gad G 82)), (1, .int x1)] [] σ := by
  unfold F_X12_eats_0 at h
  refine a_aload_n ho dX12_eats_0 rfl rfl 0 rfl ?_
  obtain ⟨r1, hq1, h⟩ := ob_el h
  refine a_callVi ho vy_X12_here ml_X12_70 o_82 (C_X12_here hq1) rfl rfl (by decide) (Nat.le_of_ble_eq_true rfl) dX12_eats_1 rfl ?_
  refine a_iload_n ho dX12_eats_4 rfl rfl 1 rfl ?_
  refine a_icmp_ne (tgt := 12) ho dX12_eats_5 rfl rfl (fun hc5 => ?_) (fun hc5 => ?_)
  · replace h := if_f hc5 h
    refine a_iconst (v := 0) ho dX12_eats_12 rfl (by decide) ?_
    exact a_sub [0] rfl (T_X12_eats_13 ho hr0 hs0 h)
  · replace h := if_t hc5 h
    refine a_iconst (v := 1) ho dX12_eats_8 rfl (by decide) ?_
    refine a_goto (tgt := 13) ho dX12_eats_9 rfl ?_
    exact a_sub [0] rfl (T_X12_eats_13 ho hr0 hs0 h)
theorem C_X12_eats {l : Launch} {X : gX} {σ σ0 : gS} {r0 : Int32} {a1 : Int32} (h : F_X12_eats_0 a1 σ = some (r0, σ0)) : gCt l X yX12_eats (.code yX12_eats cX12_eats 3 (some .boolean)) 2 [.ref (X.2.2.1 82), .int a1] σ (some (.int r0)) σ0 :=
  gCt_of cX12_eats (by decide) (Nat.le_of_ble_eq_true rfl) (fun G hl hX hv hs ho => by subst hl; subst hX; exact a_sub [0, 1] rfl (T_X12_eats_0 ho hv hs h))
theorem T_X12_figure_0 {G : gM} (ho : gOk G "WaxClothModel" cX12_figure 2 (some .boolean) 3) {r0 : Int32} (hr0 : gv0 G = some (.int r0)) {σ0 : gS} (hs0 : gs0 G = σ0) {x1 : Int32} {x2 : Int32} {σ : gS} (h : F_X12_figure_0 x1 x2 σ = some (r0, σ0)) : gAt G 0 [(0, .ref (gad G 82)), (1, .int x1), (2, .int x2)] [] σ := by
  unfold F_X12_figure_0 at h
  refine a_aload_n ho dX12_figure_0 rfl rfl 0 rfl ?_
  obtain ⟨r1, hq1, h⟩ := ob_el h
  refine a_callVi ho vy_X12_here ml_X12_70 o_82 (C_X12_here hq1) rfl rfl (by decide) (Nat.le_of_ble_eq_true rfl) dX12_figure_1 rfl ?_
  refine a_bipush (v := 48) ho dX12_figure_4 rfl (by decide) ?_
  refine a_isub ho dX12_figure_6 rfl ?_
  refine a_i2l ho dX12_figure_7 rfl ?_
  refine a_iload_n ho dX12_figure_8 rfl rfl 1 rfl ?_
  refine a_i2l ho dX12_figure_9 rfl ?_
  refine a_iload_n ho dX12_figure_10 rfl rfl 2 rfl ?_
  refine a_i2l ho dX12_figure_11 rfl ?_
  refine a_callSi ho vy_X12_in ml_X12_59 (C_X12_in (Int32.toInt64 (r1 - 48)) (Int32.toInt64 x1) (Int32.toInt64 x2)) rfl rfl (by decide) (Nat.le_of_ble_eq_true rfl) dX12_figure_12 rfl ?_
  refine a_if_ne (tgt := 20) ho dX12_figure_15 rfl rfl (fun hc15 => ?_) (fun hc15 => ?_)
  · replace h := if_f hc15 h
    refine a_aload_n ho dX12_figure_20 rfl rfl 0 rfl ?_
    refine a_aload_n ho dX12_figure_21 rfl rfl 0 rfl ?_
    obtain ⟨r22, hq22, h⟩ := ob_el h
    refine a_callVi ho vy_X12_here ml_X12_70 o_82 (C_X12_here hq22) rfl rfl (by decide) (Nat.le_of_ble_eq_true rfl) dX12_figure_22 rfl ?_
    refine a_bipush (v := 48) ho dX12_figure_25 rfl (by decide) ?_
    refine a_isub ho dX12_figure_27 rfl ?_
    refine a_putI ho fp_X12_74 o_82 (ff_10_16 _ o_82) dX12_figure_28 rfl ?_
    obtain ⟨σ28, hs28, h⟩ := bd_el h
    refine a_nmS hs28 ?_
    refine a_aload_n ho dX12_figure_31 rfl rfl 0 rfl ?_
    refine a_dup ho dX12_figure_32 rfl rfl ?_
    refine a_getI ho fl_X12_67 o_82 (ff_10_15 _ o_82) dX12_figure_33 rfl ?_
    refine a_iconst (v := 1) ho dX12_figure_36 rfl (by decide) ?_
    refine a_iadd ho dX12_figure_37 rfl ?_
    refine a_putI ho fp_X12_67 o_82 (ff_10_15 _ o_82) dX12_figure_38 rfl ?_
    obtain ⟨σ38, hs38, h⟩ := bd_el h
    refine a_nmS hs38 ?_
    refine a_iconst (v := 1) ho dX12_figure_41 rfl (by decide) ?_
    exact a_zret ho dX12_figure_42 rfl (rI hr0 (re_el h).1) (rS hs0 (re_el h).2)
  · replace h := if_t hc15 h
    refine a_iconst (v := 0) ho dX12_figure_18 rfl (by decide) ?_
    exact a_zret ho dX12_figure_19 rfl (rI hr0 (re_el h).1) (rS hs0 (re_el h).2)
theorem C_X12_figure {l : Launch} {X : gX} {σ σ0 : gS} {r0 : Int32} {a1 : Int32} {a2 : Int32} (h : F_X12_figure_0 a1 a2 σ = some (r0, σ0)) : gCt l X yX12_figure (.code yX12_figure cX12_figure 3 (some .boolean)) 2 [.ref (X.2.2.1 82), .int a1, .int a2] σ (some (.int r0)) σ0 :=
  gCt_of cX12_figure (by decide) (Nat.le_of_ble_eq_true rfl) (fun G hl hX hv hs ho => by subst hl; subst hX; exact a_sub [0, 1, 2] rfl (T_X12_figure_0 ho hv hs h))
theorem T_X12_kindBy_0 {G : gM} (ho : gOk G "WaxClothModel" cX12_kindBy 1 (some .int) 1) {r0 : Int32} (hr0 : gv0 G = some (.int r0)) {σ : gS} (hs0 : gs0 G = σ) {x0 : Int32} (h : F_X12_kindBy_0 x0 = r0) : gAt G 0 [(0, .int x0)] [] σ := by
  unfold F_X12_kindBy_0 at h
  refine a_iload_n ho dX12_kindBy_0 rfl rfl 0 rfl ?_
  by_cases hw1_99 : x0 = 99
  · replace h := if_t hw1_99 h
    refine a_look (tgt := 52) (off := 51) ho dX12_kindBy_1 (by decide) (by rw [hw1_99]; rfl) rfl ?_
    refine a_iconst (v := 1) ho dX12_kindBy_52 rfl (by decide) ?_
    exact a_iret ho dX12_kindBy_53 (rI hr0 h) hs0
  replace h := if_f hw1_99 h
  by_cases hw1_102 : x0 = 102
  · replace h := if_t hw1_102 h
    refine a_look (tgt := 60) (off := 59) ho dX12_kindBy_1 (by decide) (by rw [hw1_102]; rfl) rfl ?_
    refine a_iconst (v := 5) ho dX12_kindBy_60 rfl (by decide) ?_
    exact a_iret ho dX12_kindBy_61 (rI hr0 h) hs0
  replace h := if_f hw1_102 h
  by_cases hw1_108 : x0 = 108
  · replace h := if_t hw1_108 h
    refine a_look (tgt := 54) (off := 53) ho dX12_kindBy_1 (by decide) (by rw [hw1_108]; rfl) rfl ?_
    refine a_iconst (v := 2) ho dX12_kindBy_54 rfl (by decide) ?_
    exact a_iret ho dX12_kindBy_55 (rI hr0 h) hs0
  replace h := if_f hw1_108 h
  by_cases hw1_115 : x0 = 115
  · replace h := if_t hw1_115 h
    refine a_look (tgt := 56) (off := 55) ho dX12_kindBy_1 (by decide) (by rw [hw1_115]; rfl) rfl ?_
    refine a_iconst (v := 3) ho dX12_kindBy_56 rfl (by decide) ?_
    exact a_iret ho dX12_kindBy_57 (rI hr0 h) hs0
  replace h := if_f hw1_115 h
  by_cases hw1_119 : x0 = 119
  · replace h := if_t hw1_119 h
    refine a_look (tgt := 58) (off := 57) ho dX12_kindBy_1 (by decide) (by rw [hw1_119]; rfl) rfl ?_
    refine a_iconst (v := 4) ho dX12_kindBy_58 rfl (by decide) ?_
    exact a_iret ho dX12_kindBy_59 (rI hr0 h) hs0
  replace h := if_f hw1_119 h
  refine a_look (tgt := 62) (off := 61) ho dX12_kindBy_1 (by decide) (by have q99 := (tI hw1_99 (z := 99) rfl).symm; have q102 := (tI hw1_102 (z := 102) rfl).symm; have q108 := (tI hw1_108 (z := 108) rfl).symm; have q115 := (tI hw1_115 (z := 115) rfl).symm; have q119 := (tI hw1_119 (z := 119) rfl).symm; simp [Op.lookupswitch.offset, q99, q102, q108, q115, q119]) rfl ?_
  refine a_iconst (v := 0) ho dX12_kindBy_62 rfl (by decide) ?_
  exact a_iret ho dX12_kindBy_63 (rI hr0 h) hs0
theorem C_X12_kindBy {l : Launch} {X : gX} {σ : gS} (a0 : Int32) : gCt l X yX12_kindBy (.code yX12_kindBy cX12_kindBy 1 (some .int)) 1 [.int a0] σ (some (.int (F_X12_kindBy_0 a0))) σ :=
  gCt_of cX12_kindBy (by decide) (Nat.le_of_ble_eq_true rfl) (fun G hl hX hv hs ho => by subst hl; subst hX; exact a_sub [0] rfl (T_X12_kindBy_0 ho hv hs rfl))
theorem T_X12_readsSquare_0 {G : gM} (ho : gOk G "WaxClothModel" cX12_readsSquare 3 (some .boolean) 3) {r0 : Int32} (hr0 : gv0 G = some (.int r0)) {σ0 : gS} (hs0 : gs0 G = σ0) {σ : gS} (h : F_X12_readsSquare_0 σ = some (r0, σ0)) : gAt G 0 [(0, .ref (gad G 82))] [] σ := by
  unfold F_X12_readsSquare_0 at h
  refine a_aload_n ho dX12_readsSquare_0 rfl rfl 0 rfl ?_
  refine a_getR ho fl_X12_13 o_82 fr_10_1 dX12_readsSquare_1 rfl ?_
  refine a_iconst (v := 0) ho dX12_readsSquare_4 rfl (by decide) ?_
  refine a_iald ho i_84 (by decide) dX12_readsSquare_5 rfl ?_
  refine a_nmI (x := σ.1 84 0) rfl ?_
  obtain ⟨x6, hb6, h⟩ := bd_el h
  refine a_nmI hb6 ?_
  refine a_istore_n (L' := [(1, .int x6), (0, .ref (gad G 82))]) ho dX12_readsSquare_6 rfl rfl (by decide) rfl ?_
  refine a_aload_n ho dX12_readsSquare_7 rfl rfl 1 rfl ?_
  obtain ⟨r8, hq8, h⟩ := ob_el h
  refine a_callVi ho vy_X12_here ml_X12_70 o_82 (C_X12_here hq8) rfl rfl (by decide) (Nat.le_of_ble_eq_true rfl) dX12_readsSquare_8 rfl ?_
  refine a_callSi ho vy_X12_kindBy ml_X12_77 (C_X12_kindBy r8) rfl rfl (by decide) (Nat.le_of_ble_eq_true rfl) dX12_readsSquare_11 rfl ?_
  obtain ⟨x14, hb14, h⟩ := bd_el h
  refine a_nmI hb14 ?_
  refine a_istore_n (L' := [(2, .int x14), (1, .int x6), (0, .ref (gad G 82))]) ho dX12_readsSquare_14 rfl rfl (by decide) rfl ?_
  refine a_iload_n ho dX12_readsSquare_15 rfl rfl 0 rfl ?_
  refine a_if_ne (tgt := 21) ho dX12_readsSquare_16 rfl rfl (fun hc16 => ?_) (fun hc16 => ?_)
  · replace h := if_f hc16 h
    refine a_aload_n ho dX12_readsSquare_21 rfl rfl 2 rfl ?_
    refine a_dup ho dX12_readsSquare_22 rfl rfl ?_
    refine a_getI ho fl_X12_67 o_82 (ff_10_15 _ o_82) dX12_readsSquare_23 rfl ?_
    refine a_iconst (v := 1) ho dX12_readsSquare_26 rfl (by decide) ?_
    refine a_iadd ho dX12_readsSquare_27 rfl ?_
    refine a_putI ho fp_X12_67 o_82 (ff_10_15 _ o_82) dX12_readsSquare_28 rfl ?_
    obtain ⟨σ28, hs28, h⟩ := bd_el h
    refine a_nmS hs28 ?_
    refine a_aload_n ho dX12_readsSquare_31 rfl rfl 2 rfl ?_
    refine a_getR ho fl_X12_13 o_82 fr_10_1 dX12_readsSquare_32 rfl ?_
    refine a_iconst (v := 3) ho dX12_readsSquare_35 rfl (by decide) ?_
    refine a_iload_n ho dX12_readsSquare_36 rfl rfl 1 rfl ?_
    refine a_iadd ho dX12_readsSquare_37 rfl ?_
    refine a_iload_n ho dX12_readsSquare_38 rfl rfl 0 rfl ?_
    obtain ⟨hk39, h⟩ := ck_el h
    refine a_iast ho i_84 hk39 dX12_readsSquare_39 rfl ?_
    obtain ⟨σ39, hs39, h⟩ := bd_el h
    refine a_nmS hs39 ?_
    refine a_aload_n ho dX12_readsSquare_40 rfl rfl 2 rfl ?_
    refine a_iconst (v := 0) ho dX12_readsSquare_41 rfl (by decide) ?_
    refine a_bipush (v := 7) ho dX12_readsSquare_42 rfl (by decide) ?_
    obtain ⟨r44, σ44, hq44, h⟩ := ob2_el h
    refine a_callVi ho vy_X12_figure ml_X12_81 o_82 (C_X12_figure hq44) rfl rfl (by decide) (Nat.le_of_ble_eq_true rfl) dX12_readsSquare_44 rfl ?_
    refine a_if_ne (tgt := 52) ho dX12_readsSquare_47 rfl rfl (fun hc47 => ?_) (fun hc47 => ?_)
    · replace h := if_f hc47 h
      refine a_aload_n ho dX12_readsSquare_52 rfl rfl 2 rfl ?_
      refine a_getR ho fl_X12_16 o_82 fr_10_2 dX12_readsSquare_53 rfl ?_
      refine a_iload_n ho dX12_readsSquare_56 rfl rfl 1 rfl ?_
      refine a_aload_n ho dX12_readsSquare_57 rfl rfl 2 rfl ?_
      refine a_getI ho fl_X12_74 o_82 (ff_10_16 _ o_82) dX12_readsSquare_58 rfl ?_
      obtain ⟨hk61, h⟩ := ck_el h
      refine a_iast ho i_85 hk61 dX12_readsSquare_61 rfl ?_
      obtain ⟨σ61, hs61, h⟩ := bd_el h
      refine a_nmS hs61 ?_
      refine a_aload_n ho dX12_readsSquare_62 rfl rfl 2 rfl ?_
      refine a_getR ho fl_X12_13 o_82 fr_10_1 dX12_readsSquare_63 rfl ?_
      refine a_iconst (v := 0) ho dX12_readsSquare_66 rfl (by decide) ?_
      refine a_dup2 ho dX12_readsSquare_67 rfl rfl rfl ?_
      refine a_iald ho i_84 (by decide) dX12_readsSquare_68 rfl ?_
      refine a_nmI (x := σ61.1 84 0) rfl ?_
      refine a_iconst (v := 1) ho dX12_readsSquare_69 rfl (by decide) ?_
      refine a_iadd ho dX12_readsSquare_70 rfl ?_
      refine a_iast ho i_84 (by decide) dX12_readsSquare_71 rfl ?_
      refine a_nmS (τ := sI σ61 84 0 ((σ61.1 84 0) + 1)) rfl ?_
      obtain ⟨σ71, hs71, h⟩ := bd_el h
      refine a_nmS hs71 ?_
      refine a_iconst (v := 1) ho dX12_readsSquare_72 rfl (by decide) ?_
      exact a_zret ho dX12_readsSquare_73 rfl (rI hr0 (re_el h).1) (rS hs0 (re_el h).2)
    · replace h := if_t hc47 h
      refine a_iconst (v := 0) ho dX12_readsSquare_50 rfl (by decide) ?_
      exact a_zret ho dX12_readsSquare_51 rfl (rI hr0 (re_el h).1) (rS hs0 (re_el h).2)
  · replace h := if_t hc16 h
    refine a_iconst (v := 0) ho dX12_readsSquare_19 rfl (by decide) ?_
    exact a_zret ho dX12_readsSquare_20 rfl (rI hr0 (re_el h).1) (rS hs0 (re_el h).2)
theorem C_X12_readsSquare {l : Launch} {X : gX} {σ σ0 : gS} {r0 : Int32} (h : F_X12_readsSquare_0 σ = some (r0, σ0)) : gCt l X yX12_readsSquare (.code yX12_readsSquare cX12_readsSquare 3 (some .boolean)) 3 [.ref (X.2.2.1 82)] σ (some (.int r0)) σ0 :=
  gCt_of cX12_readsSquare (by decide) (Nat.le_of_ble_eq_true rfl) (fun G hl hX hv hs ho => by subst hl; subst hX; exact a_sub [0] rfl (T_X12_readsSquare_0 ho hv hs h))
theorem T_X12_readsDye_2 {G : gM} (ho : gOk G "WaxClothModel" cX12_readsDye 3 (some .boolean) 2) {r0 : Int32} (hr0 : gv0 G = some (.int r0)) {σ0 : gS} (hs0 : gs0 G = σ0) : ∀ (n : Nat) (x1 : Int32) (σ : gS), F_X12_readsDye_2 n x1 σ = some (r0, σ0) → gAt G 2 [(0, .ref (gad G 82)), (1, .int x1)] [] σ := by
  intro n
  induction n with
  | zero => intro x1 σ h; cases h
  | succ n ih =>
    intro x1 σ h
    unfold F_X12_readsDye_2 at h
    refine a_iload_n ho dX12_readsDye_2 rfl rfl 1 rfl ?_
    refine a_iconst (v := 3) ho dX12_readsDye_3 rfl (by decide) ?_
    refine a_icmp_ge (tgt := 46) ho dX12_readsDye_4 rfl rfl (fun hc4 => ?_) (fun hc4 => ?_)
    · replace h := if_t hc4 h
      refine a_aload_n ho dX12_readsDye_46 rfl rfl 0 rfl ?_
      refine a_getR ho fl_X12_13 o_82 fr_10_1 dX12_readsDye_47 rfl ?_
      refine a_iconst (v := 1) ho dX12_readsDye_50 rfl (by decide) ?_
      refine a_dup2 ho dX12_readsDye_51 rfl rfl rfl ?_
      refine a_iald ho i_84 (by decide) dX12_readsDye_52 rfl ?_
      refine a_nmI (x := σ.1 84 1) rfl ?_
      refine a_iconst (v := 1) ho dX12_readsDye_53 rfl (by decide) ?_
      refine a_iadd ho dX12_readsDye_54 rfl ?_
      refine a_iast ho i_84 (by decide) dX12_readsDye_55 rfl ?_
      refine a_nmS (τ := sI σ 84 1 ((σ.1 84 1) + 1)) rfl ?_
      obtain ⟨σ55, hs55, h⟩ := bd_el h
      refine a_nmS hs55 ?_
      refine a_iconst (v := 1) ho dX12_readsDye_56 rfl (by decide) ?_
      exact a_zret ho dX12_readsDye_57 rfl (rI hr0 (re_el h).1) (rS hs0 (re_el h).2)
    · replace h := if_f hc4 h
      refine a_aload_n ho dX12_readsDye_7 rfl rfl 0 rfl ?_
      refine a_iconst (v := 0) ho dX12_readsDye_8 rfl (by decide) ?_
      refine a_iconst (v := 3) ho dX12_readsDye_9 rfl (by decide) ?_
      obtain ⟨r10, σ10, hq10, h⟩ := ob2_el h
      refine a_callVi ho vy_X12_figure ml_X12_81 o_82 (C_X12_figure hq10) rfl rfl (by decide) (Nat.le_of_ble_eq_true rfl) dX12_readsDye_10 rfl ?_
      refine a_if_ne (tgt := 18) ho dX12_readsDye_13 rfl rfl (fun hc13 => ?_) (fun hc13 => ?_)
      · replace h := if_f hc13 h
        refine a_aload_n ho dX12_readsDye_18 rfl rfl 0 rfl ?_
        refine a_getR ho fl_X12_13 o_82 fr_10_1 dX12_readsDye_19 rfl ?_
        refine a_bipush (v := 11) ho dX12_readsDye_22 rfl (by decide) ?_
        refine a_iconst (v := 3) ho dX12_readsDye_24 rfl (by decide) ?_
        refine a_aload_n ho dX12_readsDye_25 rfl rfl 0 rfl ?_
        refine a_getR ho fl_X12_13 o_82 fr_10_1 dX12_readsDye_26 rfl ?_
        refine a_iconst (v := 1) ho dX12_readsDye_29 rfl (by decide) ?_
        refine a_iald ho i_84 (by decide) dX12_readsDye_30 rfl ?_
        refine a_nmI (x := σ10.1 84 1) rfl ?_
        refine a_imul ho dX12_readsDye_31 rfl ?_
        refine a_iadd ho dX12_readsDye_32 rfl ?_
        refine a_iload_n ho dX12_readsDye_33 rfl rfl 1 rfl ?_
        refine a_iadd ho dX12_readsDye_34 rfl ?_
        refine a_aload_n ho dX12_readsDye_35 rfl rfl 0 rfl ?_
        refine a_getI ho fl_X12_74 o_82 (ff_10_16 _ o_82) dX12_readsDye_36 rfl ?_
        obtain ⟨hk39, h⟩ := ck_el h
        refine a_iast ho i_84 hk39 dX12_readsDye_39 rfl ?_
        obtain ⟨σ39, hs39, h⟩ := bd_el h
        refine a_nmS hs39 ?_
        obtain ⟨x40, hb40, h⟩ := bd_el h
        refine a_iinc (L' := [(1, .int x40), (0, .ref (gad G 82))]) ho dX12_readsDye_40 rfl 1 rfl hb40 (by decide) rfl ?_
        refine a_goto (tgt := 2) ho dX12_readsDye_43 rfl ?_
        exact a_sub [1, 0] rfl (ih _ _ h)
      · replace h := if_t hc13 h
        refine a_iconst (v := 0) ho dX12_readsDye_16 rfl (by decide) ?_
        exact a_zret ho dX12_readsDye_17 rfl (rI hr0 (re_el h).1) (rS hs0 (re_el h).2)
theorem T_X12_readsDye_0 {G : gM} (ho : gOk G "WaxClothModel" cX12_readsDye 3 (some .boolean) 2) {r0 : Int32} (hr0 : gv0 G = some (.int r0)) {σ0 : gS} (hs0 : gs0 G = σ0) {σ : gS} (h : F_X12_readsDye_0 σ = some (r0, σ0)) : gAt G 0 [(0, .ref (gad G 82))] [] σ := by
  unfold F_X12_readsDye_0 at h
  refine a_iconst (v := 0) ho dX12_readsDye_0 rfl (by decide) ?_
  refine a_istore_n (L' := [(1, .int 0), (0, .ref (gad G 82))]) ho dX12_readsDye_1 rfl rfl (by decide) rfl ?_
  exact a_sub [1, 0] rfl (T_X12_readsDye_2 ho hr0 hs0 _ _ _ h)
theorem C_X12_readsDye {l : Launch} {X : gX} {σ σ0 : gS} {r0 : Int32} (h : F_X12_readsDye_0 σ = some (r0, σ0)) : gCt l X yX12_readsDye (.code yX12_readsDye cX12_readsDye 2 (some .boolean)) 3 [.ref (X.2.2.1 82)] σ (some (.int r0)) σ0 :=
  gCt_of cX12_readsDye (by decide) (Nat.le_of_ble_eq_true rfl) (fun G hl hX hv hs ho => by subst hl; subst hX; exact a_sub [0] rfl (T_X12_readsDye_0 ho hv hs h))
theorem T_X12_readsStencil_4 {G : gM} (ho : gOk G "WaxClothModel" cX12_readsStencil 3 (some .boolean) 3) {r0 : Int32} (hr0 : gv0 G = some (.int r0)) {σ0 : gS} (hs0 : gs0 G = σ0) : ∀ (n : Nat) (x1 : Int32) (x2 : Int32) (σ : gS), F_X12_readsStencil_4 n x1 x2 σ = some (r0, σ0) → gAt G 4 [(0, .ref (gad G 82)), (1, .int x1), (2, .int x2)] [] σ := by
  intro n
  induction n with
  | zero => intro x1 x2 σ h; cases h
  | succ n ih =>
    intro x1 x2 σ h
    unfold F_X12_readsStencil_4 at h
    refine a_aload_n ho dX12_readsStencil_4 rfl rfl 0 rfl ?_
    refine a_iload_n ho dX12_readsStencil_5 rfl rfl 1 rfl ?_
    refine a_iconst (v := 1) ho dX12_readsStencil_6 rfl (by decide) ?_
    refine a_iadd ho dX12_readsStencil_7 rfl ?_
    refine a_aload_n ho dX12_readsStencil_8 rfl rfl 0 rfl ?_
    refine a_getR ho fl_X12_13 o_82 fr_10_1 dX12_readsStencil_9 rfl ?_
    refine a_iconst (v := 0) ho dX12_readsStencil_12 rfl (by decide) ?_
    refine a_iald ho i_84 (by decide) dX12_readsStencil_13 rfl ?_
    refine a_nmI (x := σ.1 84 0) rfl ?_
    refine a_iconst (v := 1) ho dX12_readsStencil_14 rfl (by decide) ?_
    refine a_isub ho dX12_readsStencil_15 rfl ?_
    obtain ⟨r16, σ16, hq16, h⟩ := ob2_el h
    refine a_callVi ho vy_X12_figure ml_X12_81 o_82 (C_X12_figure hq16) rfl rfl (by decide) (Nat.le_of_ble_eq_true rfl) dX12_readsStencil_16 rfl ?_
    refine a_if_eq (tgt := 36) ho dX12_readsStencil_19 rfl rfl (fun hc19 => ?_) (fun hc19 => ?_)
    · replace h := if_t hc19 h
      refine a_aload_n ho dX12_readsStencil_36 rfl rfl 0 rfl ?_
      refine a_getR ho fl_X12_13 o_82 fr_10_1 dX12_readsStencil_37 rfl ?_
      refine a_bipush (v := 23) ho dX12_readsStencil_40 rfl (by decide) ?_
      refine a_aload_n ho dX12_readsStencil_42 rfl rfl 0 rfl ?_
      refine a_getR ho fl_X12_13 o_82 fr_10_1 dX12_readsStencil_43 rfl ?_
      refine a_iconst (v := 2) ho dX12_readsStencil_46 rfl (by decide) ?_
      refine a_iald ho i_84 (by decide) dX12_readsStencil_47 rfl ?_
      refine a_nmI (x := σ16.1 84 2) rfl ?_
      refine a_iadd ho dX12_readsStencil_48 rfl ?_
      refine a_iload_n ho dX12_readsStencil_49 rfl rfl 2 rfl ?_
      obtain ⟨hk50, h⟩ := ck_el h
      refine a_iast ho i_84 hk50 dX12_readsStencil_50 rfl ?_
      obtain ⟨σ50, hs50, h⟩ := bd_el h
      refine a_nmS hs50 ?_
      refine a_aload_n ho dX12_readsStencil_51 rfl rfl 0 rfl ?_
      refine a_getR ho fl_X12_13 o_82 fr_10_1 dX12_readsStencil_52 rfl ?_
      refine a_iconst (v := 2) ho dX12_readsStencil_55 rfl (by decide) ?_
      refine a_dup2 ho dX12_readsStencil_56 rfl rfl rfl ?_
      refine a_iald ho i_84 (by decide) dX12_readsStencil_57 rfl ?_
      refine a_nmI (x := σ50.1 84 2) rfl ?_
      refine a_iconst (v := 1) ho dX12_readsStencil_58 rfl (by decide) ?_
      refine a_iadd ho dX12_readsStencil_59 rfl ?_
      refine a_iast ho i_84 (by decide) dX12_readsStencil_60 rfl ?_
      refine a_nmS (τ := sI σ50 84 2 ((σ50.1 84 2) + 1)) rfl ?_
      obtain ⟨σ60, hs60, h⟩ := bd_el h
      refine a_nmS hs60 ?_
      refine a_iload_n ho dX12_readsStencil_61 rfl rfl 2 rfl ?_
      refine a_if_eq (tgt := 69) ho dX12_readsStencil_62 rfl rfl (fun hc62 => ?_) (fun hc62 => ?_)
      · replace h := if_t hc62 h
        refine a_iconst (v := 0) ho dX12_readsStencil_69 rfl (by decide) ?_
        exact a_zret ho dX12_readsStencil_70 rfl (rI hr0 (re_el h).1) (rS hs0 (re_el h).2)
      · replace h := if_f hc62 h
        refine a_iconst (v := 1) ho dX12_readsStencil_65 rfl (by decide) ?_
        refine a_goto (tgt := 70) ho dX12_readsStencil_66 rfl ?_
        exact a_zret ho dX12_readsStencil_70 rfl (rI hr0 (re_el h).1) (rS hs0 (re_el h).2)
    · replace h := if_f hc19 h
      refine a_aload_n ho dX12_readsStencil_22 rfl rfl 0 rfl ?_
      refine a_getI ho fl_X12_74 o_82 (ff_10_16 _ o_82) dX12_readsStencil_23 rfl ?_
      obtain ⟨x26, hb26, h⟩ := bd_el h
      refine a_nmI hb26 ?_
      refine a_istore_n (L' := [(1, .int x26), (0, .ref (gad G 82)), (2, .int x2)]) ho dX12_readsStencil_26 rfl rfl (by decide) rfl ?_
      refine a_iload_n ho dX12_readsStencil_27 rfl rfl 2 rfl ?_
      refine a_iconst (v := 1) ho dX12_readsStencil_28 rfl (by decide) ?_
      refine a_iload_n ho dX12_readsStencil_29 rfl rfl 0 rfl ?_
      refine a_ishl ho dX12_readsStencil_30 rfl ?_
      refine a_ior ho dX12_readsStencil_31 rfl ?_
      obtain ⟨x32, hb32, h⟩ := bd_el h
      refine a_nmI hb32 ?_
      refine a_istore_n (L' := [(2, .int x32), (1, .int x26), (0, .ref (gad G 82))]) ho dX12_readsStencil_32 rfl rfl (by decide) rfl ?_
      refine a_goto (tgt := 4) ho dX12_readsStencil_33 rfl ?_
      exact a_sub [2, 1, 0] rfl (ih _ _ _ h)
theorem T_X12_readsStencil_0 {G : gM} (ho : gOk G "WaxClothModel" cX12_readsStencil 3 (some .boolean) 3) {r0 : Int32} (hr0 : gv0 G = some (.int r0)) {σ0 : gS} (hs0 : gs0 G = σ0) {σ : gS} (h : F_X12_readsStencil_0 σ = some (r0, σ0)) : gAt G 0 [(0, .ref (gad G 82))] [] σ := by
  unfold F_X12_readsStencil_0 at h
  refine a_iconst (v := (-1)) ho dX12_readsStencil_0 rfl (by decide) ?_
  refine a_istore_n (L' := [(1, .int (-1)), (0, .ref (gad G 82))]) ho dX12_readsStencil_1 rfl rfl (by decide) rfl ?_
  refine a_iconst (v := 0) ho dX12_readsStencil_2 rfl (by decide) ?_
  refine a_istore_n (L' := [(2, .int 0), (1, .int (-1)), (0, .ref (gad G 82))]) ho dX12_readsStencil_3 rfl rfl (by decide) rfl ?_
  exact a_sub [2, 1, 0] rfl (T_X12_readsStencil_4 ho hr0 hs0 _ _ _ _ h)
theorem C_X12_readsStencil {l : Launch} {X : gX} {σ σ0 : gS} {r0 : Int32} (h : F_X12_readsStencil_0 σ = some (r0, σ0)) : gCt l X yX12_readsStencil (.code yX12_readsStencil cX12_readsStencil 3 (some .boolean)) 3 [.ref (X.2.2.1 82)] σ (some (.int r0)) σ0 :=
  gCt_of cX12_readsStencil (by decide) (Nat.le_of_ble_eq_true rfl) (fun G hl hX hv hs ho => by subst hl; subst hX; exact a_sub [0] rfl (T_X12_readsStencil_0 ho hv hs h))
theorem T_X12_another_0 {G : gM} (ho : gOk G "WaxClothModel" cX12_another 3 (some .boolean) 3) {r0 : Int32} (hr0 : gv0 G = some (.int r0)) {σ0 : gS} (hs0 : gs0 G = σ0) {x1 : Int32} {x2 : Int32} {σ : gS} (h : F_X12_another_0 x1 x2 σ = some (r0, σ0)) : gAt G 0 [(0, .ref (gad G 82)), (1, .int x1), (2, .int x2)] [] σ := by
  unfold F_X12_another_0 at h
  refine a_aload_n ho dX12_another_0 rfl rfl 0 rfl ?_
  refine a_getR ho fl_X12_13 o_82 fr_10_1 dX12_another_1 rfl ?_
  refine a_iload_n ho dX12_another_4 rfl rfl 1 rfl ?_
  obtain ⟨hk5, h⟩ := ck_el h
  refine a_iald ho i_84 hk5 dX12_another_5 rfl ?_
  refine a_iload_n ho dX12_another_6 rfl rfl 2 rfl ?_
  refine a_icmp_ge (tgt := 23) ho dX12_another_7 rfl rfl (fun hc7 => ?_) (fun hc7 => ?_)
  · replace h := if_t hc7 h
    refine a_iconst (v := 0) ho dX12_another_23 rfl (by decide) ?_
    exact a_zret ho dX12_another_24 rfl (rI hr0 (re_el h).1) (rS hs0 (re_el h).2)
  · replace h := if_f hc7 h
    refine a_aload_n ho dX12_another_10 rfl rfl 0 rfl ?_
    refine a_bipush (v := 44) ho dX12_another_11 rfl (by decide) ?_
    obtain ⟨r13, σ13, hq13, h⟩ := ob2_el h
    refine a_callVi ho vy_X12_eats ml_X12_85 o_82 (C_X12_eats hq13) rfl rfl (by decide) (Nat.le_of_ble_eq_true rfl) dX12_another_13 rfl ?_
    refine a_if_eq (tgt := 23) ho dX12_another_16 rfl rfl (fun hc16 => ?_) (fun hc16 => ?_)
    · replace h := if_t hc16 h
      refine a_iconst (v := 0) ho dX12_another_23 rfl (by decide) ?_
      exact a_zret ho dX12_another_24 rfl (rI hr0 (re_el h).1) (rS hs0 (re_el h).2)
    · replace h := if_f hc16 h
      refine a_iconst (v := 1) ho dX12_another_19 rfl (by decide) ?_
      refine a_goto (tgt := 24) ho dX12_another_20 rfl ?_
      exact a_zret ho dX12_another_24 rfl (rI hr0 (re_el h).1) (rS hs0 (re_el h).2)
theorem C_X12_another {l : Launch} {X : gX} {σ σ0 : gS} {r0 : Int32} {a1 : Int32} {a2 : Int32} (h : F_X12_another_0 a1 a2 σ = some (r0, σ0)) : gCt l X yX12_another (.code yX12_another cX12_another 3 (some .boolean)) 3 [.ref (X.2.2.1 82), .int a1, .int a2] σ (some (.int r0)) σ0 :=
  gCt_of cX12_another (by decide) (Nat.le_of_ble_eq_true rfl) (fun G hl hX hv hs ho => by subst hl; subst hX; exact a_sub [0, 1, 2] rfl (T_X12_another_0 ho hv hs h))
theorem T_X12_reads_117 {G : gM} (ho : gOk G "WaxClothModel" cX12_reads 4 (some .boolean) 2) {r0 : Int32} (hr0 : gv0 G = some (.int r0)) {σ0 : gS} (hs0 : gs0 G = σ0) : ∀ (n : Nat) (σ : gS), F_X12_reads_117 n σ = some (r0, σ0) → gAt G 117 [(0, .ref (gad G 82))] [] σ := by
  intro n
  induction n with
  | zero => intro σ h; cases h
  | succ n ih =>
    intro σ h
    unfold F_X12_reads_117 at h
    refine a_aload_n ho dX12_reads_117 rfl rfl 0 rfl ?_
    refine a_iconst (v := 2) ho dX12_reads_118 rfl (by decide) ?_
    refine a_iconst (v := 3) ho dX12_reads_119 rfl (by decide) ?_
    obtain ⟨r120, σ120, hq120, h⟩ := ob2_el h
    refine a_callVi ho vy_X12_another ml_X12_93 o_82 (C_X12_another hq120) rfl rfl (by decide) (Nat.le_of_ble_eq_true rfl) dX12_reads_120 rfl ?_
    refine a_if_eq (tgt := 135) ho dX12_reads_123 rfl rfl (fun hc123 => ?_) (fun hc123 => ?_)
    · replace h := if_t hc123 h
      refine a_aload_n ho dX12_reads_135 rfl rfl 0 rfl ?_
      refine a_getI ho fl_X12_67 o_82 (ff_10_15 _ o_82) dX12_reads_136 rfl ?_
      refine a_aload_n ho dX12_reads_139 rfl rfl 0 rfl ?_
      refine a_getI ho fl_X12_63 o_82 (ff_10_11 _ o_82) dX12_reads_140 rfl ?_
      refine a_icmp_ne (tgt := 150) ho dX12_reads_143 rfl rfl (fun hc143 => ?_) (fun hc143 => ?_)
      · replace h := if_f hc143 h
        refine a_iconst (v := 0) ho dX12_reads_150 rfl (by decide) ?_
        exact a_zret ho dX12_reads_151 rfl (rI hr0 (re_el h).1) (rS hs0 (re_el h).2)
      · replace h := if_t hc143 h
        refine a_iconst (v := 1) ho dX12_reads_146 rfl (by decide) ?_
        refine a_goto (tgt := 151) ho dX12_reads_147 rfl ?_
        exact a_zret ho dX12_reads_151 rfl (rI hr0 (re_el h).1) (rS hs0 (re_el h).2)
    · replace h := if_f hc123 h
      refine a_aload_n ho dX12_reads_126 rfl rfl 0 rfl ?_
      obtain ⟨r127, σ127, hq127, h⟩ := ob2_el h
      refine a_callVi ho vy_X12_readsStencil ml_X12_99 o_82 (C_X12_readsStencil hq127) rfl rfl (by decide) (Nat.le_of_ble_eq_true rfl) dX12_reads_127 rfl ?_
      refine a_if_ne (tgt := 117) ho dX12_reads_130 rfl rfl (fun hc130 => ?_) (fun hc130 => ?_)
      · replace h := if_f hc130 h
        exact a_sub [0] rfl (ih _ h)
      · replace h := if_t hc130 h
        refine a_iconst (v := 0) ho dX12_reads_133 rfl (by decide) ?_
        exact a_zret ho dX12_reads_134 rfl (rI hr0 (re_el h).1) (rS hs0 (re_el h).2)
theorem T_X12_reads_81 {G : gM} (ho : gOk G "WaxClothModel" cX12_reads 4 (some .boolean) 2) {r0 : Int32} (hr0 : gv0 G = some (.int r0)) {σ0 : gS} (hs0 : gs0 G = σ0) : ∀ (n : Nat) (σ : gS), F_X12_reads_81 n σ = some (r0, σ0) → gAt G 81 [(0, .ref (gad G 82))] [] σ := by
  intro n
  induction n with
  | zero => intro σ h; cases h
  | succ n ih =>
    intro σ h
    unfold F_X12_reads_81 at h
    refine a_aload_n ho dX12_reads_81 rfl rfl 0 rfl ?_
    refine a_iconst (v := 1) ho dX12_reads_82 rfl (by decide) ?_
    refine a_iconst (v := 4) ho dX12_reads_83 rfl (by decide) ?_
    obtain ⟨r84, σ84, hq84, h⟩ := ob2_el h
    refine a_callVi ho vy_X12_another ml_X12_93 o_82 (C_X12_another hq84) rfl rfl (by decide) (Nat.le_of_ble_eq_true rfl) dX12_reads_84 rfl ?_
    refine a_if_eq (tgt := 99) ho dX12_reads_87 rfl rfl (fun hc87 => ?_) (fun hc87 => ?_)
    · replace h := if_t hc87 h
      refine a_aload_n ho dX12_reads_99 rfl rfl 0 rfl ?_
      refine a_bipush (v := 59) ho dX12_reads_100 rfl (by decide) ?_
      obtain ⟨r102, σ102, hq102, h⟩ := ob2_el h
      refine a_callVi ho vy_X12_eats ml_X12_85 o_82 (C_X12_eats hq102) rfl rfl (by decide) (Nat.le_of_ble_eq_true rfl) dX12_reads_102 rfl ?_
      refine a_if_eq (tgt := 115) ho dX12_reads_105 rfl rfl (fun hc105 => ?_) (fun hc105 => ?_)
      · replace h := if_t hc105 h
        refine a_iconst (v := 0) ho dX12_reads_115 rfl (by decide) ?_
        exact a_zret ho dX12_reads_116 rfl (rI hr0 (re_el h).1) (rS hs0 (re_el h).2)
      · replace h := if_f hc105 h
        refine a_aload_n ho dX12_reads_108 rfl rfl 0 rfl ?_
        obtain ⟨r109, σ109, hq109, h⟩ := ob2_el h
        refine a_callVi ho vy_X12_readsStencil ml_X12_99 o_82 (C_X12_readsStencil hq109) rfl rfl (by decide) (Nat.le_of_ble_eq_true rfl) dX12_reads_109 rfl ?_
        refine a_if_ne (tgt := 117) ho dX12_reads_112 rfl rfl (fun hc112 => ?_) (fun hc112 => ?_)
        · replace h := if_f hc112 h
          exact a_sub [0] rfl (T_X12_reads_117 ho hr0 hs0 _ _ h)
        · replace h := if_t hc112 h
          refine a_iconst (v := 0) ho dX12_reads_115 rfl (by decide) ?_
          exact a_zret ho dX12_reads_116 rfl (rI hr0 (re_el h).1) (rS hs0 (re_el h).2)
    · replace h := if_f hc87 h
      refine a_aload_n ho dX12_reads_90 rfl rfl 0 rfl ?_
      obtain ⟨r91, σ91, hq91, h⟩ := ob2_el h
      refine a_callVi ho vy_X12_readsDye ml_X12_96 o_82 (C_X12_readsDye hq91) rfl rfl (by decide) (Nat.le_of_ble_eq_true rfl) dX12_reads_91 rfl ?_
      refine a_if_ne (tgt := 81) ho dX12_reads_94 rfl rfl (fun hc94 => ?_) (fun hc94 => ?_)
      · replace h := if_f hc94 h
        exact a_sub [0] rfl (ih _ h)
      · replace h := if_t hc94 h
        refine a_iconst (v := 0) ho dX12_reads_97 rfl (by decide) ?_
        exact a_zret ho dX12_reads_98 rfl (rI hr0 (re_el h).1) (rS hs0 (re_el h).2)
theorem T_X12_reads_44 {G : gM} (ho : gOk G "WaxClothModel" cX12_reads 4 (some .boolean) 2) {r0 : Int32} (hr0 : gv0 G = some (.int r0)) {σ0 : gS} (hs0 : gs0 G = σ0) : ∀ (n : Nat) (σ : gS), F_X12_reads_44 n σ = some (r0, σ0) → gAt G 44 [(0, .ref (gad G 82))] [] σ := by
  intro n
  induction n with
  | zero => intro σ h; cases h
  | succ n ih =>
    intro σ h
    unfold F_X12_reads_44 at h
    refine a_aload_n ho dX12_reads_44 rfl rfl 0 rfl ?_
    refine a_iconst (v := 0) ho dX12_reads_45 rfl (by decide) ?_
    refine a_bipush (v := 8) ho dX12_reads_46 rfl (by decide) ?_
    obtain ⟨r48, σ48, hq48, h⟩ := ob2_el h
    refine a_callVi ho vy_X12_another ml_X12_93 o_82 (C_X12_another hq48) rfl rfl (by decide) (Nat.le_of_ble_eq_true rfl) dX12_reads_48 rfl ?_
    refine a_if_eq (tgt := 63) ho dX12_reads_51 rfl rfl (fun hc51 => ?_) (fun hc51 => ?_)
    · replace h := if_t hc51 h
      refine a_aload_n ho dX12_reads_63 rfl rfl 0 rfl ?_
      refine a_bipush (v := 59) ho dX12_reads_64 rfl (by decide) ?_
      obtain ⟨r66, σ66, hq66, h⟩ := ob2_el h
      refine a_callVi ho vy_X12_eats ml_X12_85 o_82 (C_X12_eats hq66) rfl rfl (by decide) (Nat.le_of_ble_eq_true rfl) dX12_reads_66 rfl ?_
      refine a_if_eq (tgt := 79) ho dX12_reads_69 rfl rfl (fun hc69 => ?_) (fun hc69 => ?_)
      · replace h := if_t hc69 h
        refine a_iconst (v := 0) ho dX12_reads_79 rfl (by decide) ?_
        exact a_zret ho dX12_reads_80 rfl (rI hr0 (re_el h).1) (rS hs0 (re_el h).2)
      · replace h := if_f hc69 h
        refine a_aload_n ho dX12_reads_72 rfl rfl 0 rfl ?_
        obtain ⟨r73, σ73, hq73, h⟩ := ob2_el h
        refine a_callVi ho vy_X12_readsDye ml_X12_96 o_82 (C_X12_readsDye hq73) rfl rfl (by decide) (Nat.le_of_ble_eq_true rfl) dX12_reads_73 rfl ?_
        refine a_if_ne (tgt := 81) ho dX12_reads_76 rfl rfl (fun hc76 => ?_) (fun hc76 => ?_)
        · replace h := if_f hc76 h
          exact a_sub [0] rfl (T_X12_reads_81 ho hr0 hs0 _ _ h)
        · replace h := if_t hc76 h
          refine a_iconst (v := 0) ho dX12_reads_79 rfl (by decide) ?_
          exact a_zret ho dX12_reads_80 rfl (rI hr0 (re_el h).1) (rS hs0 (re_el h).2)
    · replace h := if_f hc51 h
      refine a_aload_n ho dX12_reads_54 rfl rfl 0 rfl ?_
      obtain ⟨r55, σ55, hq55, h⟩ := ob2_el h
      refine a_callVi ho vy_X12_readsSquare ml_X12_89 o_82 (C_X12_readsSquare hq55) rfl rfl (by decide) (Nat.le_of_ble_eq_true rfl) dX12_reads_55 rfl ?_
      refine a_if_ne (tgt := 44) ho dX12_reads_58 rfl rfl (fun hc58 => ?_) (fun hc58 => ?_)
      · replace h := if_f hc58 h
        exact a_sub [0] rfl (ih _ h)
      · replace h := if_t hc58 h
        refine a_iconst (v := 0) ho dX12_reads_61 rfl (by decide) ?_
        exact a_zret ho dX12_reads_62 rfl (rI hr0 (re_el h).1) (rS hs0 (re_el h).2)
theorem T_X12_reads_2 {G : gM} (ho : gOk G "WaxClothModel" cX12_reads 4 (some .boolean) 2) {r0 : Int32} (hr0 : gv0 G = some (.int r0)) {σ0 : gS} (hs0 : gs0 G = σ0) : ∀ (n : Nat) (x1 : Int32) (σ : gS), F_X12_reads_2 n x1 σ = some (r0, σ0) → gAt G 2 [(0, .ref (gad G 82)), (1, .int x1)] [] σ := by
  intro n
  induction n with
  | zero => intro x1 σ h; cases h
  | succ n ih =>
    intro x1 σ h
    unfold F_X12_reads_2 at h
    refine a_iload_n ho dX12_reads_2 rfl rfl 1 rfl ?_
    refine a_bipush (v := 26) ho dX12_reads_3 rfl (by decide) ?_
    refine a_icmp_ge (tgt := 21) ho dX12_reads_5 rfl rfl (fun hc5 => ?_) (fun hc5 => ?_)
    · replace h := if_t hc5 h
      refine a_aload_n ho dX12_reads_21 rfl rfl 0 rfl ?_
      refine a_iconst (v := 0) ho dX12_reads_22 rfl (by decide) ?_
      refine a_putI ho fp_X12_67 o_82 (ff_10_15 _ o_82) dX12_reads_23 rfl ?_
      obtain ⟨σ23, hs23, h⟩ := bd_el h
      refine a_nmS hs23 ?_
      refine a_aload_n ho dX12_reads_26 rfl rfl 0 rfl ?_
      refine a_bipush (v := 119) ho dX12_reads_27 rfl (by decide) ?_
      obtain ⟨r29, σ29, hq29, h⟩ := ob2_el h
      refine a_callVi ho vy_X12_eats ml_X12_85 o_82 (C_X12_eats hq29) rfl rfl (by decide) (Nat.le_of_ble_eq_true rfl) dX12_reads_29 rfl ?_
      refine a_if_eq (tgt := 42) ho dX12_reads_32 rfl rfl (fun hc32 => ?_) (fun hc32 => ?_)
      · replace h := if_t hc32 h
        refine a_iconst (v := 0) ho dX12_reads_42 rfl (by decide) ?_
        exact a_zret ho dX12_reads_43 rfl (rI hr0 (re_el h).1) (rS hs0 (re_el h).2)
      · replace h := if_f hc32 h
        refine a_aload_n ho dX12_reads_35 rfl rfl 0 rfl ?_
        obtain ⟨r36, σ36, hq36, h⟩ := ob2_el h
        refine a_callVi ho vy_X12_readsSquare ml_X12_89 o_82 (C_X12_readsSquare hq36) rfl rfl (by decide) (Nat.le_of_ble_eq_true rfl) dX12_reads_36 rfl ?_
        refine a_if_ne (tgt := 44) ho dX12_reads_39 rfl rfl (fun hc39 => ?_) (fun hc39 => ?_)
        · replace h := if_f hc39 h
          exact a_sub [0] rfl (T_X12_reads_44 ho hr0 hs0 _ _ h)
        · replace h := if_t hc39 h
          refine a_iconst (v := 0) ho dX12_reads_42 rfl (by decide) ?_
          exact a_zret ho dX12_reads_43 rfl (rI hr0 (re_el h).1) (rS hs0 (re_el h).2)
    · replace h := if_f hc5 h
      refine a_aload_n ho dX12_reads_8 rfl rfl 0 rfl ?_
      refine a_getR ho fl_X12_13 o_82 fr_10_1 dX12_reads_9 rfl ?_
      refine a_iload_n ho dX12_reads_12 rfl rfl 1 rfl ?_
      refine a_iconst (v := 0) ho dX12_reads_13 rfl (by decide) ?_
      obtain ⟨hk14, h⟩ := ck_el h
      refine a_iast ho i_84 hk14 dX12_reads_14 rfl ?_
      obtain ⟨σ14, hs14, h⟩ := bd_el h
      refine a_nmS hs14 ?_
      obtain ⟨x15, hb15, h⟩ := bd_el h
      refine a_iinc (L' := [(1, .int x15), (0, .ref (gad G 82))]) ho dX12_reads_15 rfl 1 rfl hb15 (by decide) rfl ?_
      refine a_goto (tgt := 2) ho dX12_reads_18 rfl ?_
      exact a_sub [1, 0] rfl (ih _ _ h)
theorem T_X12_reads_0 {G : gM} (ho : gOk G "WaxClothModel" cX12_reads 4 (some .boolean) 2) {r0 : Int32} (hr0 : gv0 G = some (.int r0)) {σ0 : gS} (hs0 : gs0 G = σ0) {σ : gS} (h : F_X12_reads_0 σ = some (r0, σ0)) : gAt G 0 [(0, .ref (gad G 82))] [] σ := by
  unfold F_X12_reads_0 at h
  refine a_iconst (v := 0) ho dX12_reads_0 rfl (by decide) ?_
  refine a_istore_n (L' := [(1, .int 0), (0, .ref (gad G 82))]) ho dX12_reads_1 rfl rfl (by decide) rfl ?_
  exact a_sub [1, 0] rfl (T_X12_reads_2 ho hr0 hs0 _ _ _ h)
theorem C_X12_reads {l : Launch} {X : gX} {σ σ0 : gS} {r0 : Int32} (h : F_X12_reads_0 σ = some (r0, σ0)) : gCt l X yX12_reads (.code yX12_reads cX12_reads 2 (some .boolean)) 4 [.ref (X.2.2.1 82)] σ (some (.int r0)) σ0 :=
  gCt_of cX12_reads (by decide) (Nat.le_of_ble_eq_true rfl) (fun G hl hX hv hs ho => by subst hl; subst hX; exact a_sub [0] rfl (T_X12_reads_0 ho hv hs h))
