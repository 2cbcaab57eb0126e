/-! CONSTRUCTORS 4: the small ones -/
def W_X10 (Y : kX) (h0 : Nat) (q : Nat → Nat) : va_W := [(h0, .inr (8, [.int 0, .ref (q 0)])), ((q 0), .inl (Y.2 0, 80, (.inl (fun _ => 0))))]
theorem K_X10 (l : Launch) (Y : kX) (h0 : Nat) : kCt l Y yX10_init (.code yX10_init cX10_init 1 none) { frames := 1, cells := 1, slots := 80, locals := 12 } [.ref h0] [(h0, .inr (8, [.int 0, .null]))] (W_X10 Y h0) := by
  refine kCt_of cX10_init (by decide) rfl (Nat.le_of_ble_eq_true rfl) (fun G hl hY hw0 hWk ho => ?_)
  subst hl; subst hY
  show kAt G 0 [(0, .ref h0)] [] 0 0 [(h0, .inr (8, [.int 0, .null]))]
  refine k_aload_n ho dX10_init_0 rfl rfl 0 rfl ?_
  refine k_obj ho wo_X10 w_oi w_oc rfl (Nat.le_of_ble_eq_true rfl) (Nat.le_of_ble_eq_true rfl) dX10_init_1 rfl ?_
  refine k_aload_n ho dX10_init_4 rfl rfl 0 rfl ?_
  refine k_bipush ho dX10_init_5 rfl (v := 80) (by decide) ?_
  refine k_newa ho (atype := .int) (ty := .int) (t := 0) (N := 80) (a0 := (80, .inl (fun _ => 0))) wa_int rfl (fun C h => by cases h) rfl (fun _ => rfl) (by decide) (by decide) (by decide) (Nat.le_of_ble_eq_true rfl) (Nat.le_of_ble_eq_true rfl) dX10_init_7 rfl (fun q7 => ?_)
  show kAt G 9 [(0, .ref h0)] [.ref q7, .ref h0] 1 80 [(h0, .inr (8, [.int 0, .null])), (q7, .inl ((kY G).2 0, 80, (.inl (fun _ => 0))))]
  refine k_putF ho 0 rfl kf_X10_9 rfl rfl (Nat.le_of_ble_eq_true rfl) dX10_init_9 rfl ?_
  show kAt G 12 [(0, .ref h0)] [] 1 80 [(h0, .inr (8, [.int 0, .ref q7])), (q7, .inl ((kY G).2 0, 80, (.inl (fun _ => 0))))]
  exact k_ret ho rfl rfl (fun i => [q7].getD i 0) (by rw [hWk]; rfl) dX10_init_12
