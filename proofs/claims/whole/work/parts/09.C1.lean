/-! CONSTRUCTORS 4: the small ones -/
def W_X10 (Y : kX) (h0 : Nat) (q : Nat → Nat) : va_W := [(h0, .inr (8, [.int 0, .ref (q 0)])), ((q 0), .inl (Y.2 0, 80, (.inl (fun _ => 0))))]
theorem K_X10 (l : Launch) (Y : kX) (h0 : Nat) : kCt l Y yX10_init (.code yX10_init cX10_init 1 none) { frames := 1, cells := 1, slots := 80, locals := 12 } [.ref h0] [(h0, .inr (8, [.int 0, .null]))] (W_X10 Y h0) := by
  refine kCt_of cX10_init (by decide) rfl (Nat.le_of_ble_eq_true rfl) (fun G hl hY hw0 hWk ho => ?_)
  subst hl; subst hY
  show kAt G 0 [(0, .ref h0)] [] 0 0 [(h0, .inr (8, [.int 0, .null]))]
  refine k_aload_n ho dX10_init_0 rfl rfl 0 rfl ?_
  refine k_obj ho wo_X10 w_oi w_oc rfl (Nat.le_of_ble_eq_true rfl) (Nat.le_of_ble_eq_true rfl) dX10_init_1 rfl ?_
  refine k_aload_n ho dX10_init_4 rfl rfl 0 rfl ?_
  refine k_bipush ho dX10_init_5 rfl (v := 80) (by decide) ?_
  refine k_newa ho (atype := .int) (ty := .int) (t := 0) (N := 80) (a0 := (80, .inl (fun _ => 0))) wa_int rfl (fun C h => by cases h) rfl (fun _ => rfl) (by decide) (by decide) (by decide) (Nat.le_of_ble_eq_true rfl) (Nat.le_of_ble_eq_true rfl) dX10_init_7 rfl (fun q7 => ?_)
  show kAt G 9 [(0, .ref h0)] [.ref q7, .ref h0] 1 80 [(h0, .inr (8, [.int 0, .null])), (q7, .inl ((kY G).2 0, 80, (.inl (fun _ => 0))))]
  refine k_putF ho 0 rfl kf_X10_9 rfl rfl (Nat.le_of_ble_eq_true rfl) dX10_init_9 rfl ?_
  show kAt G 12 [(0, .ref h0)] [] 1 80 [(h0, .inr (8, [.int 0, .ref q7])), (q7, .inl ((kY G).2 0, 80, (.inl (fun _ => 0))))]
  exact k_ret ho rfl rfl (fun i => [q7].getD i 0) (by rw [hWk]; rfl) dX10_init_12
def W_X2 (Y : kX) (h0 : Nat) (q : Nat → Nat) : va_W := [(h0, .inr (2, [.int 0, .int 0, .int 0, .int 0, .ref (q 0), .ref (q 1), .ref (q 2), .ref (q 3), .ref (q 4)])), ((q 0), .inl (Y.2 0, 8, (.inl (fun _ => 0)))), ((q 1), .inl (Y.2 0, 8, (.inl (fun _ => 0)))), ((q 2), .inl (Y.2 0, 8, (.inl (fun _ => 0)))), ((q 3), .inl (Y.2 0, 12, (.inl (fun _ => 0)))), ((q 4), .inl (Y.2 0, 3, (.inl (fun _ => 0))))]
theorem K_X2 (l : Launch) (Y : kX) (h0 : Nat) : kCt l Y yX2_init (.code yX2_init cX2_init 1 none) { frames := 1, cells := 5, slots := 39, locals := 12 } [.ref h0] [(h0, .inr (2, [.int 0, .int 0, .int 0, .int 0, .null, .null, .null, .null, .null]))] (W_X2 Y h0) := by
  refine kCt_of cX2_init (by decide) rfl (Nat.le_of_ble_eq_true rfl) (fun G hl hY hw0 hWk ho => ?_)
  subst hl; subst hY
  show kAt G 0 [(0, .ref h0)] [] 0 0 [(h0, .inr (2, [.int 0, .int 0, .int 0, .int 0, .null, .null, .null, .null, .null]))]
  refine k_aload_n ho dX2_init_0 rfl rfl 0 rfl ?_
  refine k_obj ho wo_X2 w_oi w_oc rfl (Nat.le_of_ble_eq_true rfl) (Nat.le_of_ble_eq_true rfl) dX2_init_1 rfl ?_
  refine k_aload_n ho dX2_init_4 rfl rfl 0 rfl ?_
  refine k_bipush ho dX2_init_5 rfl (v := 8) (by decide) ?_
  refine k_newa ho (atype := .int) (ty := .int) (t := 0) (N := 8) (a0 := (8, .inl (fun _ => 0))) wa_int rfl (fun C h => by cases h) rfl (fun _ => rfl) (by decide) (by decide) (by decide) (Nat.le_of_ble_eq_true rfl) (Nat.le_of_ble_eq_true rfl) dX2_init_7 rfl (fun q7 => ?_)
  show kAt G 9 [(0, .ref h0)] [.ref q7, .ref h0] 1 8 [(h0, .inr (2, [.int 0, .int 0, .int 0, .int 0, .null, .null, .null, .null, .null])), (q7, .inl ((kY G).2 0, 8, (.inl (fun _ => 0))))]
  refine k_putF ho 0 rfl kf_X2_9 rfl rfl (Nat.le_of_ble_eq_true rfl) dX2_init_9 rfl ?_
  show kAt G 12 [(0, .ref h0)] [] 1 8 [(h0, .inr (2, [.int 0, .int 0, .int 0, .int 0, .ref q7, .null, .null, .null, .null])), (q7, .inl ((kY G).2 0, 8, (.inl (fun _ => 0))))]
  refine k_aload_n ho dX2_init_12 rfl rfl 0 rfl ?_
  refine k_bipush ho dX2_init_13 rfl (v := 8) (by decide) ?_
  refine k_newa ho (atype := .int) (ty := .int) (t := 0) (N := 8) (a0 := (8, .inl (fun _ => 0))) wa_int rfl (fun C h => by cases h) rfl (fun _ => rfl) (by decide) (by decide) (by decide) (Nat.le_of_ble_eq_true rfl) (Nat.le_of_ble_eq_true rfl) dX2_init_15 rfl (fun q15 => ?_)
  show kAt G 17 [(0, .ref h0)] [.ref q15, .ref h0] 2 16 [(h0, .inr (2, [.int 0, .int 0, .int 0, .int 0, .ref q7, .null, .null, .null, .null])), (q7, .inl ((kY G).2 0, 8, (.inl (fun _ => 0)))), (q15, .inl ((kY G).2 0, 8, (.inl (fun _ => 0))))]
  refine k_putF ho 0 rfl kf_X2_13 rfl rfl (Nat.le_of_ble_eq_true rfl) dX2_init_17 rfl ?_
  show kAt G 20 [(0, .ref h0)] [] 2 16 [(h0, .inr (2, [.int 0, .int 0, .int 0, .int 0, .ref q7, .ref q15, .null, .null, .null])), (q7, .inl ((kY G).2 0, 8, (.inl (fun _ => 0)))), (q15, .inl ((kY G).2 0, 8, (.inl (fun _ => 0))))]
  refine k_aload_n ho dX2_init_20 rfl rfl 0 rfl ?_
  refine k_bipush ho dX2_init_21 rfl (v := 8) (by decide) ?_
  refine k_newa ho (atype := .int) (ty := .int) (t := 0) (N := 8) (a0 := (8, .inl (fun _ => 0))) wa_int rfl (fun C h => by cases h) rfl (fun _ => rfl) (by decide) (by decide) (by decide) (Nat.le_of_ble_eq_true rfl) (Nat.le_of_ble_eq_true rfl) dX2_init_23 rfl (fun q23 => ?_)
  show kAt G 25 [(0, .ref h0)] [.ref q23, .ref h0] 3 24 [(h0, .inr (2, [.int 0, .int 0, .int 0, .int 0, .ref q7, .ref q15, .null, .null, .null])), (q7, .inl ((kY G).2 0, 8, (.inl (fun _ => 0)))), (q15, .inl ((kY G).2 0, 8, (.inl (fun _ => 0)))), (q23, .inl ((kY G).2 0, 8, (.inl (fun _ => 0))))]
  refine k_putF ho 0 rfl kf_X2_16 rfl rfl (Nat.le_of_ble_eq_true rfl) dX2_init_25 rfl ?_
  show kAt G 28 [(0, .ref h0)] [] 3 24 [(h0, .inr (2, [.int 0, .int 0, .int 0, .int 0, .ref q7, .ref q15, .ref q23, .null, .null])), (q7, .inl ((kY G).2 0, 8, (.inl (fun _ => 0)))), (q15, .inl ((kY G).2 0, 8, (.inl (fun _ => 0)))), (q23, .inl ((kY G).2 0, 8, (.inl (fun _ => 0))))]
  refine k_aload_n ho dX2_init_28 rfl rfl 0 rfl ?_
  refine k_bipush ho dX2_init_29 rfl (v := 12) (by decide) ?_
  refine k_newa ho (atype := .int) (ty := .int) (t := 0) (N := 12) (a0 := (12, .inl (fun _ => 0))) wa_int rfl (fun C h => by cases h) rfl (fun _ => rfl) (by decide) (by decide) (by decide) (Nat.le_of_ble_eq_true rfl) (Nat.le_of_ble_eq_true rfl) dX2_init_31 rfl (fun q31 => ?_)
  show kAt G 33 [(0, .ref h0)] [.ref q31, .ref h0] 4 36 [(h0, .inr (2, [.int 0, .int 0, .int 0, .int 0, .ref q7, .ref q15, .ref q23, .null, .null])), (q7, .inl ((kY G).2 0, 8, (.inl (fun _ => 0)))), (q15, .inl ((kY G).2 0, 8, (.inl (fun _ => 0)))), (q23, .inl ((kY G).2 0, 8, (.inl (fun _ => 0)))), (q31, .inl ((kY G).2 0, 12, (.inl (fun _ => 0))))]
  refine k_putF ho 0 rfl kf_X2_21 rfl rfl (Nat.le_of_ble_eq_true rfl) dX2_init_33 rfl ?_
  show kAt G 36 [(0, .ref h0)] [] 4 36 [(h0, .inr (2, [.int 0, .int 0, .int 0, .int 0, .ref q7, .ref q15, .ref q23, .ref q31, .null])), (q7, .inl ((kY G).2 0, 8, (.inl (fun _ => 0)))), (q15, .inl ((kY G).2 0, 8, (.inl (fun _ => 0)))), (q23, .inl ((kY G).2 0, 8, (.inl (fun _ => 0)))), (q31, .inl ((kY G).2 0, 12, (.inl (fun _ => 0))))]
  refine k_aload_n ho dX2_init_36 rfl rfl 0 rfl ?_
  refine k_iconst ho dX2_init_37 rfl (v := 3) (by decide) ?_
  refine k_newa ho (atype := .int) (ty := .int) (t := 0) (N := 3) (a0 := (3, .inl (fun _ => 0))) wa_int rfl (fun C h => by cases h) rfl (fun _ => rfl) (by decide) (by decide) (by decide) (Nat.le_of_ble_eq_true rfl) (Nat.le_of_ble_eq_true rfl) dX2_init_38 rfl (fun q38 => ?_)
  show kAt G 40 [(0, .ref h0)] [.ref q38, .ref h0] 5 39 [(h0, .inr (2, [.int 0, .int 0, .int 0, .int 0, .ref q7, .ref q15, .ref q23, .ref q31, .null])), (q7, .inl ((kY G).2 0, 8, (.inl (fun _ => 0)))), (q15, .inl ((kY G).2 0, 8, (.inl (fun _ => 0)))), (q23, .inl ((kY G).2 0, 8, (.inl (fun _ => 0)))), (q31, .inl ((kY G).2 0, 12, (.inl (fun _ => 0)))), (q38, .inl ((kY G).2 0, 3, (.inl (fun _ => 0))))]
  refine k_putF ho 0 rfl kf_X2_24 rfl rfl (Nat.le_of_ble_eq_true rfl) dX2_init_40 rfl ?_
  show kAt G 43 [(0, .ref h0)] [] 5 39 [(h0, .inr (2, [.int 0, .int 0, .int 0, .int 0, .ref q7, .ref q15, .ref q23, .ref q31, .ref q38])), (q7, .inl ((kY G).2 0, 8, (.inl (fun _ => 0)))), (q15, .inl ((kY G).2 0, 8, (.inl (fun _ => 0)))), (q23, .inl ((kY G).2 0, 8, (.inl (fun _ => 0)))), (q31, .inl ((kY G).2 0, 12, (.inl (fun _ => 0)))), (q38, .inl ((kY G).2 0, 3, (.inl (fun _ => 0))))]
  exact k_ret ho rfl rfl (fun i => [q7, q15, q23, q31, q38].getD i 0) (by rw [hWk]; rfl) dX2_init_43
def W_X0 (Y : kX) (h0 : Nat) (q : Nat → Nat) : va_W := [(h0, .inr (0, [.int 0, .int 0, .ref (q 0), .ref (q 1), .ref (q 2)])), ((q 0), .inl (Y.2 0, 5, (.inl (fun _ => 0)))), ((q 1), .inl (Y.2 0, 5, (.inl (fun _ => 0)))), ((q 2), .inl (Y.2 1, 64, (.inr (.inl (fun _ => 0)))))]
theorem K_X0 (l : Launch) (Y : kX) (h0 : Nat) : kCt l Y yX0_init (.code yX0_init cX0_init 1 none) { frames := 1, cells := 3, slots := 74, locals := 12 } [.ref h0] [(h0, .inr (0, [.int 0, .int 0, .null, .null, .null]))] (W_X0 Y h0) := by
  refine kCt_of cX0_init (by decide) rfl (Nat.le_of_ble_eq_true rfl) (fun G hl hY hw0 hWk ho => ?_)
  subst hl; subst hY
  show kAt G 0 [(0, .ref h0)] [] 0 0 [(h0, .inr (0, [.int 0, .int 0, .null, .null, .null]))]
  refine k_aload_n ho dX0_init_0 rfl rfl 0 rfl ?_
  refine k_obj ho wo_X0 w_oi w_oc rfl (Nat.le_of_ble_eq_true rfl) (Nat.le_of_ble_eq_true rfl) dX0_init_1 rfl ?_
  refine k_aload_n ho dX0_init_4 rfl rfl 0 rfl ?_
  refine k_iconst ho dX0_init_5 rfl (v := 5) (by decide) ?_
  refine k_newa ho (atype := .int) (ty := .int) (t := 0) (N := 5) (a0 := (5, .inl (fun _ => 0))) wa_int rfl (fun C h => by cases h) rfl (fun _ => rfl) (by decide) (by decide) (by decide) (Nat.le_of_ble_eq_true rfl) (Nat.le_of_ble_eq_true rfl) dX0_init_6 rfl (fun q6 => ?_)
  show kAt G 8 [(0, .ref h0)] [.ref q6, .ref h0] 1 5 [(h0, .inr (0, [.int 0, .int 0, .null, .null, .null])), (q6, .inl ((kY G).2 0, 5, (.inl (fun _ => 0))))]
  refine k_putF ho 0 rfl kf_X0_9 rfl rfl (Nat.le_of_ble_eq_true rfl) dX0_init_8 rfl ?_
  show kAt G 11 [(0, .ref h0)] [] 1 5 [(h0, .inr (0, [.int 0, .int 0, .ref q6, .null, .null])), (q6, .inl ((kY G).2 0, 5, (.inl (fun _ => 0))))]
  refine k_aload_n ho dX0_init_11 rfl rfl 0 rfl ?_
  refine k_iconst ho dX0_init_12 rfl (v := 5) (by decide) ?_
  refine k_newa ho (atype := .int) (ty := .int) (t := 0) (N := 5) (a0 := (5, .inl (fun _ => 0))) wa_int rfl (fun C h => by cases h) rfl (fun _ => rfl) (by decide) (by decide) (by decide) (Nat.le_of_ble_eq_true rfl) (Nat.le_of_ble_eq_true rfl) dX0_init_13 rfl (fun q13 => ?_)
  show kAt G 15 [(0, .ref h0)] [.ref q13, .ref h0] 2 10 [(h0, .inr (0, [.int 0, .int 0, .ref q6, .null, .null])), (q6, .inl ((kY G).2 0, 5, (.inl (fun _ => 0)))), (q13, .inl ((kY G).2 0, 5, (.inl (fun _ => 0))))]
  refine k_putF ho 0 rfl kf_X0_15 rfl rfl (Nat.le_of_ble_eq_true rfl) dX0_init_15 rfl ?_
  show kAt G 18 [(0, .ref h0)] [] 2 10 [(h0, .inr (0, [.int 0, .int 0, .ref q6, .ref q13, .null])), (q6, .inl ((kY G).2 0, 5, (.inl (fun _ => 0)))), (q13, .inl ((kY G).2 0, 5, (.inl (fun _ => 0))))]
  refine k_aload_n ho dX0_init_18 rfl rfl 0 rfl ?_
  refine k_bipush ho dX0_init_19 rfl (v := 64) (by decide) ?_
  refine k_newa ho (atype := .long) (ty := .long) (t := 1) (N := 64) (a0 := (64, .inr (.inl (fun _ => 0)))) wa_long rfl (fun C h => by cases h) rfl (fun _ => rfl) (by decide) (by decide) (by decide) (Nat.le_of_ble_eq_true rfl) (Nat.le_of_ble_eq_true rfl) dX0_init_21 rfl (fun q21 => ?_)
  show kAt G 23 [(0, .ref h0)] [.ref q21, .ref h0] 3 74 [(h0, .inr (0, [.int 0, .int 0, .ref q6, .ref q13, .null])), (q6, .inl ((kY G).2 0, 5, (.inl (fun _ => 0)))), (q13, .inl ((kY G).2 0, 5, (.inl (fun _ => 0)))), (q21, .inl ((kY G).2 1, 64, (.inr (.inl (fun _ => 0)))))]
  refine k_putF ho 0 rfl kf_X0_20 rfl rfl (Nat.le_of_ble_eq_true rfl) dX0_init_23 rfl ?_
  show kAt G 26 [(0, .ref h0)] [] 3 74 [(h0, .inr (0, [.int 0, .int 0, .ref q6, .ref q13, .ref q21])), (q6, .inl ((kY G).2 0, 5, (.inl (fun _ => 0)))), (q13, .inl ((kY G).2 0, 5, (.inl (fun _ => 0)))), (q21, .inl ((kY G).2 1, 64, (.inr (.inl (fun _ => 0)))))]
  exact k_ret ho rfl rfl (fun i => [q6, q13, q21].getD i 0) (by rw [hWk]; rfl) dX0_init_26
def W_X1 (Y : kX) (h0 : Nat) (q : Nat → Nat) : va_W := [(h0, .inr (1, [.int 0, .int 0, .int 0, .int 0, .ref (q 0), .ref (q 1)])), ((q 0), .inl (Y.2 0, 9, (.inl (fun _ => 0)))), ((q 1), .inl (Y.2 0, 8, (.inl (fun _ => 0))))]
theorem K_X1 (l : Launch) (Y : kX) (h0 : Nat) : kCt l Y yX1_init (.code yX1_init cX1_init 1 none) { frames := 1, cells := 2, slots := 17, locals := 12 } [.ref h0] [(h0, .inr (1, [.int 0, .int 0, .int 0, .int 0, .null, .null]))] (W_X1 Y h0) := by
  refine kCt_of cX1_init (by decide) rfl (Nat.le_of_ble_eq_true rfl) (fun G hl hY hw0 hWk ho => ?_)
  subst hl; subst hY
  show kAt G 0 [(0, .ref h0)] [] 0 0 [(h0, .inr (1, [.int 0, .int 0, .int 0, .int 0, .null, .null]))]
  refine k_aload_n ho dX1_init_0 rfl rfl 0 rfl ?_
  refine k_obj ho wo_X1 w_oi w_oc rfl (Nat.le_of_ble_eq_true rfl) (Nat.le_of_ble_eq_true rfl) dX1_init_1 rfl ?_
  refine k_aload_n ho dX1_init_4 rfl rfl 0 rfl ?_
  refine k_bipush ho dX1_init_5 rfl (v := 9) (by decide) ?_
  refine k_newa ho (atype := .int) (ty := .int) (t := 0) (N := 9) (a0 := (9, .inl (fun _ => 0))) wa_int rfl (fun C h => by cases h) rfl (fun _ => rfl) (by decide) (by decide) (by decide) (Nat.le_of_ble_eq_true rfl) (Nat.le_of_ble_eq_true rfl) dX1_init_7 rfl (fun q7 => ?_)
  show kAt G 9 [(0, .ref h0)] [.ref q7, .ref h0] 1 9 [(h0, .inr (1, [.int 0, .int 0, .int 0, .int 0, .null, .null])), (q7, .inl ((kY G).2 0, 9, (.inl (fun _ => 0))))]
  refine k_putF ho 0 rfl kf_X1_11 rfl rfl (Nat.le_of_ble_eq_true rfl) dX1_init_9 rfl ?_
  show kAt G 12 [(0, .ref h0)] [] 1 9 [(h0, .inr (1, [.int 0, .int 0, .int 0, .int 0, .ref q7, .null])), (q7, .inl ((kY G).2 0, 9, (.inl (fun _ => 0))))]
  refine k_aload_n ho dX1_init_12 rfl rfl 0 rfl ?_
  refine k_bipush ho dX1_init_13 rfl (v := 8) (by decide) ?_
  refine k_newa ho (atype := .int) (ty := .int) (t := 0) (N := 8) (a0 := (8, .inl (fun _ => 0))) wa_int rfl (fun C h => by cases h) rfl (fun _ => rfl) (by decide) (by decide) (by decide) (Nat.le_of_ble_eq_true rfl) (Nat.le_of_ble_eq_true rfl) dX1_init_15 rfl (fun q15 => ?_)
  show kAt G 17 [(0, .ref h0)] [.ref q15, .ref h0] 2 17 [(h0, .inr (1, [.int 0, .int 0, .int 0, .int 0, .ref q7, .null])), (q7, .inl ((kY G).2 0, 9, (.inl (fun _ => 0)))), (q15, .inl ((kY G).2 0, 8, (.inl (fun _ => 0))))]
  refine k_putF ho 0 rfl kf_X1_17 rfl rfl (Nat.le_of_ble_eq_true rfl) dX1_init_17 rfl ?_
  show kAt G 20 [(0, .ref h0)] [] 2 17 [(h0, .inr (1, [.int 0, .int 0, .int 0, .int 0, .ref q7, .ref q15])), (q7, .inl ((kY G).2 0, 9, (.inl (fun _ => 0)))), (q15, .inl ((kY G).2 0, 8, (.inl (fun _ => 0))))]
  exact k_ret ho rfl rfl (fun i => [q7, q15].getD i 0) (by rw [hWk]; rfl) dX1_init_20
def W_X7 (Y : kX) (h0 : Nat) (q : Nat → Nat) : va_W := [(h0, .inr (6, [.int 0, .int 0]))]
theorem K_X7 (l : Launch) (Y : kX) (h0 : Nat) : kCt l Y yX7_init (.code yX7_init cX7_init 1 none) { frames := 1, cells := 0, slots := 0, locals := 12 } [.ref h0] [(h0, .inr (6, [.int 0, .int 0]))] (W_X7 Y h0) := by
  refine kCt_of cX7_init (by decide) rfl (Nat.le_of_ble_eq_true rfl) (fun G hl hY hw0 hWk ho => ?_)
  subst hl; subst hY
  show kAt G 0 [(0, .ref h0)] [] 0 0 [(h0, .inr (6, [.int 0, .int 0]))]
  refine k_aload_n ho dX7_init_0 rfl rfl 0 rfl ?_
  refine k_obj ho wo_X7 w_oi w_oc rfl (Nat.le_of_ble_eq_true rfl) (Nat.le_of_ble_eq_true rfl) dX7_init_1 rfl ?_
  exact k_ret ho rfl rfl (fun i => [].getD i 0) (by rw [hWk]; rfl) dX7_init_4
def W_X8 (Y : kX) (h0 : Nat) (q : Nat → Nat) : va_W := [(h0, .inr (7, [.int (-1), .int 0, .ref (q 0)])), ((q 0), .inl (Y.2 1, 24, (.inr (.inl (fun _ => 0)))))]
theorem K_X8 (l : Launch) (Y : kX) (h0 : Nat) : kCt l Y yX8_init (.code yX8_init cX8_init 1 none) { frames := 1, cells := 1, slots := 24, locals := 12 } [.ref h0] [(h0, .inr (7, [.int 0, .int 0, .null]))] (W_X8 Y h0) := by
  refine kCt_of cX8_init (by decide) rfl (Nat.le_of_ble_eq_true rfl) (fun G hl hY hw0 hWk ho => ?_)
  subst hl; subst hY
  show kAt G 0 [(0, .ref h0)] [] 0 0 [(h0, .inr (7, [.int 0, .int 0, .null]))]
  refine k_aload_n ho dX8_init_0 rfl rfl 0 rfl ?_
  refine k_obj ho wo_X8 w_oi w_oc rfl (Nat.le_of_ble_eq_true rfl) (Nat.le_of_ble_eq_true rfl) dX8_init_1 rfl ?_
  refine k_aload_n ho dX8_init_4 rfl rfl 0 rfl ?_
  refine k_iconst ho dX8_init_5 rfl (v := (-1)) (by decide) ?_
  refine k_putI ho 0 rfl fp_X8_11 (Nat.le_of_ble_eq_true rfl) dX8_init_6 rfl ?_
  show kAt G 9 [(0, .ref h0)] [] 0 0 [(h0, .inr (7, [.int (-1), .int 0, .null]))]
  refine k_aload_n ho dX8_init_9 rfl rfl 0 rfl ?_
  refine k_bipush ho dX8_init_10 rfl (v := 24) (by decide) ?_
  refine k_newa ho (atype := .long) (ty := .long) (t := 1) (N := 24) (a0 := (24, .inr (.inl (fun _ => 0)))) wa_long rfl (fun C h => by cases h) rfl (fun _ => rfl) (by decide) (by decide) (by decide) (Nat.le_of_ble_eq_true rfl) (Nat.le_of_ble_eq_true rfl) dX8_init_12 rfl (fun q12 => ?_)
  show kAt G 14 [(0, .ref h0)] [.ref q12, .ref h0] 1 24 [(h0, .inr (7, [.int (-1), .int 0, .null])), (q12, .inl ((kY G).2 1, 24, (.inr (.inl (fun _ => 0)))))]
  refine k_putF ho 0 rfl kf_X8_15 rfl rfl (Nat.le_of_ble_eq_true rfl) dX8_init_14 rfl ?_
  show kAt G 17 [(0, .ref h0)] [] 1 24 [(h0, .inr (7, [.int (-1), .int 0, .ref q12])), (q12, .inl ((kY G).2 1, 24, (.inr (.inl (fun _ => 0)))))]
  exact k_ret ho rfl rfl (fun i => [q12].getD i 0) (by rw [hWk]; rfl) dX8_init_17
def W_X6 (Y : kX) (h0 : Nat) (t0 : Nat) (q : Nat → Nat) : va_W := [(h0, .inr (5, [.ref (q 0), .int 0, .ref t0])), ((q 0), .inr (2, [.int 0, .int 0, .int 0, .int 0, .ref (q 1), .ref (q 2), .ref (q 3), .ref (q 4), .ref (q 5)])), ((q 1), .inl (Y.2 0, 8, (.inl (fun _ => 0)))), ((q 2), .inl (Y.2 0, 8, (.inl (fun _ => 0)))), ((q 3), .inl (Y.2 0, 8, (.inl (fun _ => 0)))), ((q 4), .inl (Y.2 0, 12, (.inl (fun _ => 0)))), ((q 5), .inl (Y.2 0, 3, (.inl (fun _ => 0))))]
theorem K_X6 (l : Launch) (Y : kX) (h0 : Nat) (t0 : Nat) : kCt l Y yX6_init (.code yX6_init cX6_init 2 none) { frames := 2, cells := 6, slots := 48, locals := 32 } [.ref h0, .ref t0] [(h0, .inr (5, [.null, .int 0, .null]))] (W_X6 Y h0 t0) := by
  refine kCt_of cX6_init (by decide) rfl (Nat.le_of_ble_eq_true rfl) (fun G hl hY hw0 hWk ho => ?_)
  subst hl; subst hY
  show kAt G 0 [(0, .ref h0), (1, .ref t0)] [] 0 0 [(h0, .inr (5, [.null, .int 0, .null]))]
  refine k_aload_n ho dX6_init_0 rfl rfl 0 rfl ?_
  refine k_obj ho wo_X6 w_oi w_oc rfl (Nat.le_of_ble_eq_true rfl) (Nat.le_of_ble_eq_true rfl) dX6_init_1 rfl ?_
  refine k_aload_n ho dX6_init_4 rfl rfl 0 rfl ?_
  refine k_new ho kn_X6_7 (Nat.le_of_ble_eq_true rfl) (Nat.le_of_ble_eq_true rfl) dX6_init_5 rfl (fun q5 => ?_)
  show kAt G 8 [(0, .ref h0), (1, .ref t0)] [.ref q5, .ref h0] 1 9 [(h0, .inr (5, [.null, .int 0, .null])), (q5, .inr (2, [.int 0, .int 0, .int 0, .int 0, .null, .null, .null, .null, .null]))]
  refine k_dup ho rfl dX6_init_8 rfl ?_
  refine k_callN ho (w1 := [(h0, .inr (5, [.null, .int 0, .null]))]) kt_X2 (List.mem_of_getElem? (i := 1) rfl) (K_X2 _ _ q5) rfl rfl rfl ⟨Nat.le_of_ble_eq_true rfl, Nat.le_of_ble_eq_true rfl⟩ (Nat.le_of_ble_eq_true rfl) ⟨Nat.le_of_ble_eq_true rfl, Nat.le_of_ble_eq_true rfl⟩ dX6_init_9 rfl (fun r9 => ?_)
  show kAt G 12 [(0, .ref h0), (1, .ref t0)] [.ref q5, .ref h0] 6 48 [(h0, .inr (5, [.null, .int 0, .null])), (q5, .inr (2, [.int 0, .int 0, .int 0, .int 0, .ref (r9 0), .ref (r9 1), .ref (r9 2), .ref (r9 3), .ref (r9 4)])), ((r9 0), .inl ((kY G).2 0, 8, (.inl (fun _ => 0)))), ((r9 1), .inl ((kY G).2 0, 8, (.inl (fun _ => 0)))), ((r9 2), .inl ((kY G).2 0, 8, (.inl (fun _ => 0)))), ((r9 3), .inl ((kY G).2 0, 12, (.inl (fun _ => 0)))), ((r9 4), .inl ((kY G).2 0, 3, (.inl (fun _ => 0))))]
  refine k_putF ho 0 rfl kf_X6_10 rfl rfl (Nat.le_of_ble_eq_true rfl) dX6_init_12 rfl ?_
  show kAt G 15 [(0, .ref h0), (1, .ref t0)] [] 6 48 [(h0, .inr (5, [.ref q5, .int 0, .null])), (q5, .inr (2, [.int 0, .int 0, .int 0, .int 0, .ref (r9 0), .ref (r9 1), .ref (r9 2), .ref (r9 3), .ref (r9 4)])), ((r9 0), .inl ((kY G).2 0, 8, (.inl (fun _ => 0)))), ((r9 1), .inl ((kY G).2 0, 8, (.inl (fun _ => 0)))), ((r9 2), .inl ((kY G).2 0, 8, (.inl (fun _ => 0)))), ((r9 3), .inl ((kY G).2 0, 12, (.inl (fun _ => 0)))), ((r9 4), .inl ((kY G).2 0, 3, (.inl (fun _ => 0))))]
  refine k_aload_n ho dX6_init_15 rfl rfl 0 rfl ?_
  refine k_aload_n ho dX6_init_16 rfl rfl 1 rfl ?_
  refine k_putF ho 0 rfl kf_X6_16 rfl rfl (Nat.le_of_ble_eq_true rfl) dX6_init_17 rfl ?_
  show kAt G 20 [(0, .ref h0), (1, .ref t0)] [] 6 48 [(h0, .inr (5, [.ref q5, .int 0, .ref t0])), (q5, .inr (2, [.int 0, .int 0, .int 0, .int 0, .ref (r9 0), .ref (r9 1), .ref (r9 2), .ref (r9 3), .ref (r9 4)])), ((r9 0), .inl ((kY G).2 0, 8, (.inl (fun _ => 0)))), ((r9 1), .inl ((kY G).2 0, 8, (.inl (fun _ => 0)))), ((r9 2), .inl ((kY G).2 0, 8, (.inl (fun _ => 0)))), ((r9 3), .inl ((kY G).2 0, 12, (.inl (fun _ => 0)))), ((r9 4), .inl ((kY G).2 0, 3, (.inl (fun _ => 0))))]
  exact k_ret ho rfl rfl (fun i => [q5, (r9 0), (r9 1), (r9 2), (r9 3), (r9 4)].getD i 0) (by rw [hWk]; rfl) dX6_init_20
