/-! THE START 1: cell by cell -/
set_option maxRecDepth 20000
theorem ge_0 (Y : kX) (h0 h1 : Nat) (q q' : Nat → Nat) (z : Nat) : gE (X0 Y h0 h1 q q' z) 0 (σ00.1 0) (σ00.2 0) = .inr (9, [.ref (q 0), .ref (q 2), .ref (q 9), .ref (q 15), .ref (q 41), .ref (q 54), .ref (q 63), .ref (q 72), .ref (q 76), .ref (q 79), .ref (q 80)]) := rfl
theorem ge_1 (Y : kX) (h0 h1 : Nat) (q q' : Nat → Nat) (z : Nat) : gE (X0 Y h0 h1 q q' z) 1 (σ00.1 1) (σ00.2 1) = .inr (8, [.int 0, .ref (q 1)]) := rfl
theorem ge_2 (Y : kX) (h0 h1 : Nat) (q q' : Nat → Nat) (z : Nat) : gE (X0 Y h0 h1 q q' z) 2 (σ00.1 2) (σ00.2 2) = .inl (Y.2 0, 80, (.inl (fun _ => 0))) := by rw [σ00_0 (by decide)]; rfl
theorem ge_3 (Y : kX) (h0 h1 : Nat) (q q' : Nat → Nat) (z : Nat) : gE (X0 Y h0 h1 q q' z) 3 (σ00.1 3) (σ00.2 3) = .inr (5, [.ref (q 3), .int 0, .ref (q 0)]) := rfl
theorem ge_4 (Y : kX) (h0 h1 : Nat) (q q' : Nat → Nat) (z : Nat) : gE (X0 Y h0 h1 q q' z) 4 (σ00.1 4) (σ00.2 4) = .inr (2, [.int 0, .int 0, .int 0, .int 0, .ref (q 4), .ref (q 5), .ref (q 6), .ref (q 7), .ref (q 8)]) := rfl
theorem ge_5 (Y : kX) (h0 h1 : Nat) (q q' : Nat → Nat) (z : Nat) : gE (X0 Y h0 h1 q q' z) 5 (σ00.1 5) (σ00.2 5) = .inl (Y.2 0, 8, (.inl (fun _ => 0))) := by rw [σ00_0 (by decide)]; rfl
theorem ge_6 (Y : kX) (h0 h1 : Nat) (q q' : Nat → Nat) (z : Nat) : gE (X0 Y h0 h1 q q' z) 6 (σ00.1 6) (σ00.2 6) = .inl (Y.2 0, 8, (.inl (fun _ => 0))) := by rw [σ00_0 (by decide)]; rfl
theorem ge_7 (Y : kX) (h0 h1 : Nat) (q q' : Nat → Nat) (z : Nat) : gE (X0 Y h0 h1 q q' z) 7 (σ00.1 7) (σ00.2 7) = .inl (Y.2 0, 8, (.inl (fun _ => 0))) := by rw [σ00_0 (by decide)]; rfl
theorem ge_8 (Y : kX) (h0 h1 : Nat) (q q' : Nat → Nat) (z : Nat) : gE (X0 Y h0 h1 q q' z) 8 (σ00.1 8) (σ00.2 8) = .inl (Y.2 0, 12, (.inl (fun _ => 0))) := by rw [σ00_0 (by decide)]; rfl
theorem ge_9 (Y : kX) (h0 h1 : Nat) (q q' : Nat → Nat) (z : Nat) : gE (X0 Y h0 h1 q q' z) 9 (σ00.1 9) (σ00.2 9) = .inl (Y.2 0, 3, (.inl (fun _ => 0))) := by rw [σ00_0 (by decide)]; rfl
theorem ge_10 (Y : kX) (h0 h1 : Nat) (q q' : Nat → Nat) (z : Nat) : gE (X0 Y h0 h1 q q' z) 10 (σ00.1 10) (σ00.2 10) = .inr (2, [.int 0, .int 0, .int 0, .int 0, .ref (q 10), .ref (q 11), .ref (q 12), .ref (q 13), .ref (q 14)]) := rfl
theorem ge_11 (Y : kX) (h0 h1 : Nat) (q q' : Nat → Nat) (z : Nat) : gE (X0 Y h0 h1 q q' z) 11 (σ00.1 11) (σ00.2 11) = .inl (Y.2 0, 8, (.inl (fun _ => 0))) := by rw [σ00_0 (by decide)]; rfl
theorem ge_12 (Y : kX) (h0 h1 : Nat) (q q' : Nat → Nat) (z : Nat) : gE (X0 Y h0 h1 q q' z) 12 (σ00.1 12) (σ00.2 12) = .inl (Y.2 0, 8, (.inl (fun _ => 0))) := by rw [σ00_0 (by decide)]; rfl
theorem ge_13 (Y : kX) (h0 h1 : Nat) (q q' : Nat → Nat) (z : Nat) : gE (X0 Y h0 h1 q q' z) 13 (σ00.1 13) (σ00.2 13) = .inl (Y.2 0, 8, (.inl (fun _ => 0))) := by rw [σ00_0 (by decide)]; rfl
theorem ge_14 (Y : kX) (h0 h1 : Nat) (q q' : Nat → Nat) (z : Nat) : gE (X0 Y h0 h1 q q' z) 14 (σ00.1 14) (σ00.2 14) = .inl (Y.2 0, 12, (.inl (fun _ => 0))) := by rw [σ00_0 (by decide)]; rfl
theorem ge_15 (Y : kX) (h0 h1 : Nat) (q q' : Nat → Nat) (z : Nat) : gE (X0 Y h0 h1 q q' z) 15 (σ00.1 15) (σ00.2 15) = .inl (Y.2 0, 3, (.inl (fun _ => 0))) := by rw [σ00_0 (by decide)]; rfl
theorem ge_16 (Y : kX) (h0 h1 : Nat) (q q' : Nat → Nat) (z : Nat) : gE (X0 Y h0 h1 q q' z) 16 (σ00.1 16) (σ00.2 16) = .inr (3, [.int 0, .int 0, .ref (q 16)]) := rfl
theorem ge_17 (Y : kX) (h0 h1 : Nat) (q q' : Nat → Nat) (z : Nat) : gE (X0 Y h0 h1 q q' z) 17 (σ00.1 17) (σ00.2 17) = .inl (Y.2 5, 24, .inr (.inr (.inr (.inr (fun j => [some (q 17), some (q 18), some (q 19), some (q 20), some (q 21), some (q 22), some (q 23), some (q 24), some (q 25), some (q 26), some (q 27), some (q 28), some (q 29), some (q 30), some (q 31), some (q 32), some (q 33), some (q 34), some (q 35), some (q 36), some (q 37), some (q 38), some (q 39), some (q 40)].getD j none))))) := by
  show (.inl (Y.2 5, 24, .inr (.inr (.inr (.inr (gR (ad0 h0 h1 q q') (ds 17).2.2))))) : va_E) = _
  have e : gR (ad0 h0 h1 q q') (ds 17).2.2 = (fun j => [some (q 17), some (q 18), some (q 19), some (q 20), some (q 21), some (q 22), some (q 23), some (q 24), some (q 25), some (q 26), some (q 27), some (q 28), some (q 29), some (q 30), some (q 31), some (q 32), some (q 33), some (q 34), some (q 35), some (q 36), some (q 37), some (q 38), some (q 39), some (q 40)].getD j none) := by
    funext j
    match j with
    | 0 => rfl
    | 1 => rfl
    | 2 => rfl
    | 3 => rfl
    | 4 => rfl
    | 5 => rfl
    | 6 => rfl
    | 7 => rfl
    | 8 => rfl
    | 9 => rfl
    | 10 => rfl
    | 11 => rfl
    | 12 => rfl
    | 13 => rfl
    | 14 => rfl
    | 15 => rfl
    | 16 => rfl
    | 17 => rfl
    | 18 => rfl
    | 19 => rfl
    | 20 => rfl
    | 21 => rfl
    | 22 => rfl
    | 23 => rfl
    | j + 24 => rfl
  rw [e]
theorem ge_18 (Y : kX) (h0 h1 : Nat) (q q' : Nat → Nat) (z : Nat) : gE (X0 Y h0 h1 q q' z) 18 (σ00.1 18) (σ00.2 18) = .inl (Y.2 0, 8, (.inl (fun _ => 0))) := by rw [σ00_0 (by decide)]; rfl
theorem ge_19 (Y : kX) (h0 h1 : Nat) (q q' : Nat → Nat) (z : Nat) : gE (X0 Y h0 h1 q q' z) 19 (σ00.1 19) (σ00.2 19) = .inl (Y.2 0, 8, (.inl (fun _ => 0))) := by rw [σ00_0 (by decide)]; rfl
theorem ge_20 (Y : kX) (h0 h1 : Nat) (q q' : Nat → Nat) (z : Nat) : gE (X0 Y h0 h1 q q' z) 20 (σ00.1 20) (σ00.2 20) = .inl (Y.2 0, 8, (.inl (fun _ => 0))) := by rw [σ00_0 (by decide)]; rfl
theorem ge_21 (Y : kX) (h0 h1 : Nat) (q q' : Nat → Nat) (z : Nat) : gE (X0 Y h0 h1 q q' z) 21 (σ00.1 21) (σ00.2 21) = .inl (Y.2 0, 8, (.inl (fun _ => 0))) := by rw [σ00_0 (by decide)]; rfl
theorem ge_22 (Y : kX) (h0 h1 : Nat) (q q' : Nat → Nat) (z : Nat) : gE (X0 Y h0 h1 q q' z) 22 (σ00.1 22) (σ00.2 22) = .inl (Y.2 0, 8, (.inl (fun _ => 0))) := by rw [σ00_0 (by decide)]; rfl
theorem ge_23 (Y : kX) (h0 h1 : Nat) (q q' : Nat → Nat) (z : Nat) : gE (X0 Y h0 h1 q q' z) 23 (σ00.1 23) (σ00.2 23) = .inl (Y.2 0, 8, (.inl (fun _ => 0))) := by rw [σ00_0 (by decide)]; rfl
theorem ge_24 (Y : kX) (h0 h1 : Nat) (q q' : Nat → Nat) (z : Nat) : gE (X0 Y h0 h1 q q' z) 24 (σ00.1 24) (σ00.2 24) = .inl (Y.2 0, 8, (.inl (fun _ => 0))) := by rw [σ00_0 (by decide)]; rfl
theorem ge_25 (Y : kX) (h0 h1 : Nat) (q q' : Nat → Nat) (z : Nat) : gE (X0 Y h0 h1 q q' z) 25 (σ00.1 25) (σ00.2 25) = .inl (Y.2 0, 8, (.inl (fun _ => 0))) := by rw [σ00_0 (by decide)]; rfl
theorem ge_26 (Y : kX) (h0 h1 : Nat) (q q' : Nat → Nat) (z : Nat) : gE (X0 Y h0 h1 q q' z) 26 (σ00.1 26) (σ00.2 26) = .inl (Y.2 0, 8, (.inl (fun _ => 0))) := by rw [σ00_0 (by decide)]; rfl
theorem ge_27 (Y : kX) (h0 h1 : Nat) (q q' : Nat → Nat) (z : Nat) : gE (X0 Y h0 h1 q q' z) 27 (σ00.1 27) (σ00.2 27) = .inl (Y.2 0, 8, (.inl (fun _ => 0))) := by rw [σ00_0 (by decide)]; rfl
theorem ge_28 (Y : kX) (h0 h1 : Nat) (q q' : Nat → Nat) (z : Nat) : gE (X0 Y h0 h1 q q' z) 28 (σ00.1 28) (σ00.2 28) = .inl (Y.2 0, 8, (.inl (fun _ => 0))) := by rw [σ00_0 (by decide)]; rfl
theorem ge_29 (Y : kX) (h0 h1 : Nat) (q q' : Nat → Nat) (z : Nat) : gE (X0 Y h0 h1 q q' z) 29 (σ00.1 29) (σ00.2 29) = .inl (Y.2 0, 8, (.inl (fun _ => 0))) := by rw [σ00_0 (by decide)]; rfl
theorem ge_30 (Y : kX) (h0 h1 : Nat) (q q' : Nat → Nat) (z : Nat) : gE (X0 Y h0 h1 q q' z) 30 (σ00.1 30) (σ00.2 30) = .inl (Y.2 0, 8, (.inl (fun _ => 0))) := by rw [σ00_0 (by decide)]; rfl
theorem ge_31 (Y : kX) (h0 h1 : Nat) (q q' : Nat → Nat) (z : Nat) : gE (X0 Y h0 h1 q q' z) 31 (σ00.1 31) (σ00.2 31) = .inl (Y.2 0, 8, (.inl (fun _ => 0))) := by rw [σ00_0 (by decide)]; rfl
theorem ge_32 (Y : kX) (h0 h1 : Nat) (q q' : Nat → Nat) (z : Nat) : gE (X0 Y h0 h1 q q' z) 32 (σ00.1 32) (σ00.2 32) = .inl (Y.2 0, 8, (.inl (fun _ => 0))) := by rw [σ00_0 (by decide)]; rfl
theorem ge_33 (Y : kX) (h0 h1 : Nat) (q q' : Nat → Nat) (z : Nat) : gE (X0 Y h0 h1 q q' z) 33 (σ00.1 33) (σ00.2 33) = .inl (Y.2 0, 8, (.inl (fun _ => 0))) := by rw [σ00_0 (by decide)]; rfl
theorem ge_34 (Y : kX) (h0 h1 : Nat) (q q' : Nat → Nat) (z : Nat) : gE (X0 Y h0 h1 q q' z) 34 (σ00.1 34) (σ00.2 34) = .inl (Y.2 0, 8, (.inl (fun _ => 0))) := by rw [σ00_0 (by decide)]; rfl
theorem ge_35 (Y : kX) (h0 h1 : Nat) (q q' : Nat → Nat) (z : Nat) : gE (X0 Y h0 h1 q q' z) 35 (σ00.1 35) (σ00.2 35) = .inl (Y.2 0, 8, (.inl (fun _ => 0))) := by rw [σ00_0 (by decide)]; rfl
theorem ge_36 (Y : kX) (h0 h1 : Nat) (q q' : Nat → Nat) (z : Nat) : gE (X0 Y h0 h1 q q' z) 36 (σ00.1 36) (σ00.2 36) = .inl (Y.2 0, 8, (.inl (fun _ => 0))) := by rw [σ00_0 (by decide)]; rfl
theorem ge_37 (Y : kX) (h0 h1 : Nat) (q q' : Nat → Nat) (z : Nat) : gE (X0 Y h0 h1 q q' z) 37 (σ00.1 37) (σ00.2 37) = .inl (Y.2 0, 8, (.inl (fun _ => 0))) := by rw [σ00_0 (by decide)]; rfl
theorem ge_38 (Y : kX) (h0 h1 : Nat) (q q' : Nat → Nat) (z : Nat) : gE (X0 Y h0 h1 q q' z) 38 (σ00.1 38) (σ00.2 38) = .inl (Y.2 0, 8, (.inl (fun _ => 0))) := by rw [σ00_0 (by decide)]; rfl
theorem ge_39 (Y : kX) (h0 h1 : Nat) (q q' : Nat → Nat) (z : Nat) : gE (X0 Y h0 h1 q q' z) 39 (σ00.1 39) (σ00.2 39) = .inl (Y.2 0, 8, (.inl (fun _ => 0))) := by rw [σ00_0 (by decide)]; rfl
theorem ge_40 (Y : kX) (h0 h1 : Nat) (q q' : Nat → Nat) (z : Nat) : gE (X0 Y h0 h1 q q' z) 40 (σ00.1 40) (σ00.2 40) = .inl (Y.2 0, 8, (.inl (fun _ => 0))) := by rw [σ00_0 (by decide)]; rfl
theorem ge_41 (Y : kX) (h0 h1 : Nat) (q q' : Nat → Nat) (z : Nat) : gE (X0 Y h0 h1 q q' z) 41 (σ00.1 41) (σ00.2 41) = .inl (Y.2 0, 8, (.inl (fun _ => 0))) := by rw [σ00_0 (by decide)]; rfl
theorem ge_42 (Y : kX) (h0 h1 : Nat) (q q' : Nat → Nat) (z : Nat) : gE (X0 Y h0 h1 q q' z) 42 (σ00.1 42) (σ00.2 42) = .inl (Y.2 3, 2, .inr (.inr (.inr (.inr (va_up (va_up (fun _ => none) 0 (some (q 42))) 1 (some (q 48))))))) := by
  show (.inl (Y.2 3, 2, .inr (.inr (.inr (.inr (gR (ad0 h0 h1 q q') (ds 42).2.2))))) : va_E) = _
  have e : gR (ad0 h0 h1 q q') (ds 42).2.2 = (va_up (va_up (fun _ => none) 0 (some (q 42))) 1 (some (q 48))) := by
    funext j
    match j with
    | 0 => rfl
    | 1 => rfl
    | j + 2 => rfl
  rw [e]
theorem ge_43 (Y : kX) (h0 h1 : Nat) (q q' : Nat → Nat) (z : Nat) : gE (X0 Y h0 h1 q q' z) 43 (σ00.1 43) (σ00.2 43) = .inr (2, [.int 0, .int 0, .int 0, .int 0, .ref (q 43), .ref (q 44), .ref (q 45), .ref (q 46), .ref (q 47)]) := rfl
theorem ge_44 (Y : kX) (h0 h1 : Nat) (q q' : Nat → Nat) (z : Nat) : gE (X0 Y h0 h1 q q' z) 44 (σ00.1 44) (σ00.2 44) = .inl (Y.2 0, 8, (.inl (fun _ => 0))) := by rw [σ00_0 (by decide)]; rfl
theorem ge_45 (Y : kX) (h0 h1 : Nat) (q q' : Nat → Nat) (z : Nat) : gE (X0 Y h0 h1 q q' z) 45 (σ00.1 45) (σ00.2 45) = .inl (Y.2 0, 8, (.inl (fun _ => 0))) := by rw [σ00_0 (by decide)]; rfl
theorem ge_46 (Y : kX) (h0 h1 : Nat) (q q' : Nat → Nat) (z : Nat) : gE (X0 Y h0 h1 q q' z) 46 (σ00.1 46) (σ00.2 46) = .inl (Y.2 0, 8, (.inl (fun _ => 0))) := by rw [σ00_0 (by decide)]; rfl
theorem ge_47 (Y : kX) (h0 h1 : Nat) (q q' : Nat → Nat) (z : Nat) : gE (X0 Y h0 h1 q q' z) 47 (σ00.1 47) (σ00.2 47) = .inl (Y.2 0, 12, (.inl (fun _ => 0))) := by rw [σ00_0 (by decide)]; rfl
theorem ge_48 (Y : kX) (h0 h1 : Nat) (q q' : Nat → Nat) (z : Nat) : gE (X0 Y h0 h1 q q' z) 48 (σ00.1 48) (σ00.2 48) = .inl (Y.2 0, 3, (.inl (fun _ => 0))) := by rw [σ00_0 (by decide)]; rfl
theorem ge_49 (Y : kX) (h0 h1 : Nat) (q q' : Nat → Nat) (z : Nat) : gE (X0 Y h0 h1 q q' z) 49 (σ00.1 49) (σ00.2 49) = .inr (2, [.int 0, .int 0, .int 0, .int 0, .ref (q 49), .ref (q 50), .ref (q 51), .ref (q 52), .ref (q 53)]) := rfl
theorem ge_50 (Y : kX) (h0 h1 : Nat) (q q' : Nat → Nat) (z : Nat) : gE (X0 Y h0 h1 q q' z) 50 (σ00.1 50) (σ00.2 50) = .inl (Y.2 0, 8, (.inl (fun _ => 0))) := by rw [σ00_0 (by decide)]; rfl
theorem ge_51 (Y : kX) (h0 h1 : Nat) (q q' : Nat → Nat) (z : Nat) : gE (X0 Y h0 h1 q q' z) 51 (σ00.1 51) (σ00.2 51) = .inl (Y.2 0, 8, (.inl (fun _ => 0))) := by rw [σ00_0 (by decide)]; rfl
theorem ge_52 (Y : kX) (h0 h1 : Nat) (q q' : Nat → Nat) (z : Nat) : gE (X0 Y h0 h1 q q' z) 52 (σ00.1 52) (σ00.2 52) = .inl (Y.2 0, 8, (.inl (fun _ => 0))) := by rw [σ00_0 (by decide)]; rfl
theorem ge_53 (Y : kX) (h0 h1 : Nat) (q q' : Nat → Nat) (z : Nat) : gE (X0 Y h0 h1 q q' z) 53 (σ00.1 53) (σ00.2 53) = .inl (Y.2 0, 12, (.inl (fun _ => 0))) := by rw [σ00_0 (by decide)]; rfl
theorem ge_54 (Y : kX) (h0 h1 : Nat) (q q' : Nat → Nat) (z : Nat) : gE (X0 Y h0 h1 q q' z) 54 (σ00.1 54) (σ00.2 54) = .inl (Y.2 0, 3, (.inl (fun _ => 0))) := by rw [σ00_0 (by decide)]; rfl
theorem ge_55 (Y : kX) (h0 h1 : Nat) (q q' : Nat → Nat) (z : Nat) : gE (X0 Y h0 h1 q q' z) 55 (σ00.1 55) (σ00.2 55) = .inl (Y.2 4, 4, .inr (.inr (.inr (.inr (va_up (va_up (va_up (va_up (fun _ => none) 0 (some (q 55))) 1 (some (q 57))) 2 (some (q 59))) 3 (some (q 61))))))) := by
  show (.inl (Y.2 4, 4, .inr (.inr (.inr (.inr (gR (ad0 h0 h1 q q') (ds 55).2.2))))) : va_E) = _
  have e : gR (ad0 h0 h1 q q') (ds 55).2.2 = (va_up (va_up (va_up (va_up (fun _ => none) 0 (some (q 55))) 1 (some (q 57))) 2 (some (q 59))) 3 (some (q 61))) := by
    funext j
    match j with
    | 0 => rfl
    | 1 => rfl
    | 2 => rfl
    | 3 => rfl
    | j + 4 => rfl
  rw [e]
theorem ge_56 (Y : kX) (h0 h1 : Nat) (q q' : Nat → Nat) (z : Nat) : gE (X0 Y h0 h1 q q' z) 56 (σ00.1 56) (σ00.2 56) = .inr (7, [.int (-1), .int 0, .ref (q 56)]) := rfl
theorem ge_57 (Y : kX) (h0 h1 : Nat) (q q' : Nat → Nat) (z : Nat) : gE (X0 Y h0 h1 q q' z) 57 (σ00.1 57) (σ00.2 57) = .inl (Y.2 1, 24, (.inr (.inl (fun _ => 0)))) := rfl
theorem ge_58 (Y : kX) (h0 h1 : Nat) (q q' : Nat → Nat) (z : Nat) : gE (X0 Y h0 h1 q q' z) 58 (σ00.1 58) (σ00.2 58) = .inr (7, [.int (-1), .int 0, .ref (q 58)]) := rfl
theorem ge_59 (Y : kX) (h0 h1 : Nat) (q q' : Nat → Nat) (z : Nat) : gE (X0 Y h0 h1 q q' z) 59 (σ00.1 59) (σ00.2 59) = .inl (Y.2 1, 24, (.inr (.inl (fun _ => 0)))) := rfl
theorem ge_60 (Y : kX) (h0 h1 : Nat) (q q' : Nat → Nat) (z : Nat) : gE (X0 Y h0 h1 q q' z) 60 (σ00.1 60) (σ00.2 60) = .inr (7, [.int (-1), .int 0, .ref (q 60)]) := rfl
theorem ge_61 (Y : kX) (h0 h1 : Nat) (q q' : Nat → Nat) (z : Nat) : gE (X0 Y h0 h1 q q' z) 61 (σ00.1 61) (σ00.2 61) = .inl (Y.2 1, 24, (.inr (.inl (fun _ => 0)))) := rfl
theorem ge_62 (Y : kX) (h0 h1 : Nat) (q q' : Nat → Nat) (z : Nat) : gE (X0 Y h0 h1 q q' z) 62 (σ00.1 62) (σ00.2 62) = .inr (7, [.int (-1), .int 0, .ref (q 62)]) := rfl
theorem ge_63 (Y : kX) (h0 h1 : Nat) (q q' : Nat → Nat) (z : Nat) : gE (X0 Y h0 h1 q q' z) 63 (σ00.1 63) (σ00.2 63) = .inl (Y.2 1, 24, (.inr (.inl (fun _ => 0)))) := rfl
theorem ge_64 (Y : kX) (h0 h1 : Nat) (q q' : Nat → Nat) (z : Nat) : gE (X0 Y h0 h1 q q' z) 64 (σ00.1 64) (σ00.2 64) = .inr (4, [.int 0, .int 0, .ref (q 64), .ref (q 65), .ref (q 66)]) := rfl
theorem ge_65 (Y : kX) (h0 h1 : Nat) (q q' : Nat → Nat) (z : Nat) : gE (X0 Y h0 h1 q q' z) 65 (σ00.1 65) (σ00.2 65) = .inl (Y.2 0, 4, (.inl (fun _ => 0))) := by rw [σ00_0 (by decide)]; rfl
theorem ge_66 (Y : kX) (h0 h1 : Nat) (q q' : Nat → Nat) (z : Nat) : gE (X0 Y h0 h1 q q' z) 66 (σ00.1 66) (σ00.2 66) = .inl (Y.2 0, 4, (.inl (fun _ => 0))) := by rw [σ00_0 (by decide)]; rfl
theorem ge_67 (Y : kX) (h0 h1 : Nat) (q q' : Nat → Nat) (z : Nat) : gE (X0 Y h0 h1 q q' z) 67 (σ00.1 67) (σ00.2 67) = .inl (Y.2 5, 5, .inr (.inr (.inr (.inr (fun j => [some (q 67), some (q 68), some (q 69), some (q 70), some (q 71)].getD j none))))) := by
  show (.inl (Y.2 5, 5, .inr (.inr (.inr (.inr (gR (ad0 h0 h1 q q') (ds 67).2.2))))) : va_E) = _
  have e : gR (ad0 h0 h1 q q') (ds 67).2.2 = (fun j => [some (q 67), some (q 68), some (q 69), some (q 70), some (q 71)].getD j none) := by
    funext j
    match j with
    | 0 => rfl
    | 1 => rfl
    | 2 => rfl
    | 3 => rfl
    | 4 => rfl
    | j + 5 => rfl
  rw [e]
theorem ge_68 (Y : kX) (h0 h1 : Nat) (q q' : Nat → Nat) (z : Nat) : gE (X0 Y h0 h1 q q' z) 68 (σ00.1 68) (σ00.2 68) = .inl (Y.2 0, 8, (.inl (fun _ => 0))) := by rw [σ00_0 (by decide)]; rfl
theorem ge_69 (Y : kX) (h0 h1 : Nat) (q q' : Nat → Nat) (z : Nat) : gE (X0 Y h0 h1 q q' z) 69 (σ00.1 69) (σ00.2 69) = .inl (Y.2 0, 8, (.inl (fun _ => 0))) := by rw [σ00_0 (by decide)]; rfl
theorem ge_70 (Y : kX) (h0 h1 : Nat) (q q' : Nat → Nat) (z : Nat) : gE (X0 Y h0 h1 q q' z) 70 (σ00.1 70) (σ00.2 70) = .inl (Y.2 0, 8, (.inl (fun _ => 0))) := by rw [σ00_0 (by decide)]; rfl
theorem ge_71 (Y : kX) (h0 h1 : Nat) (q q' : Nat → Nat) (z : Nat) : gE (X0 Y h0 h1 q q' z) 71 (σ00.1 71) (σ00.2 71) = .inl (Y.2 0, 8, (.inl (fun _ => 0))) := by rw [σ00_0 (by decide)]; rfl
theorem ge_72 (Y : kX) (h0 h1 : Nat) (q q' : Nat → Nat) (z : Nat) : gE (X0 Y h0 h1 q q' z) 72 (σ00.1 72) (σ00.2 72) = .inl (Y.2 0, 8, (.inl (fun _ => 0))) := by rw [σ00_0 (by decide)]; rfl
theorem ge_73 (Y : kX) (h0 h1 : Nat) (q q' : Nat → Nat) (z : Nat) : gE (X0 Y h0 h1 q q' z) 73 (σ00.1 73) (σ00.2 73) = .inr (0, [.int 0, .int 0, .ref (q 73), .ref (q 74), .ref (q 75)]) := rfl
theorem ge_74 (Y : kX) (h0 h1 : Nat) (q q' : Nat → Nat) (z : Nat) : gE (X0 Y h0 h1 q q' z) 74 (σ00.1 74) (σ00.2 74) = .inl (Y.2 0, 5, (.inl (fun _ => 0))) := by rw [σ00_0 (by decide)]; rfl
theorem ge_75 (Y : kX) (h0 h1 : Nat) (q q' : Nat → Nat) (z : Nat) : gE (X0 Y h0 h1 q q' z) 75 (σ00.1 75) (σ00.2 75) = .inl (Y.2 0, 5, (.inl (fun _ => 0))) := by rw [σ00_0 (by decide)]; rfl
theorem ge_76 (Y : kX) (h0 h1 : Nat) (q q' : Nat → Nat) (z : Nat) : gE (X0 Y h0 h1 q q' z) 76 (σ00.1 76) (σ00.2 76) = .inl (Y.2 1, 64, (.inr (.inl (fun _ => 0)))) := rfl
theorem ge_77 (Y : kX) (h0 h1 : Nat) (q q' : Nat → Nat) (z : Nat) : gE (X0 Y h0 h1 q q' z) 77 (σ00.1 77) (σ00.2 77) = .inr (1, [.int 0, .int 0, .int 0, .int 0, .ref (q 77), .ref (q 78)]) := rfl
theorem ge_78 (Y : kX) (h0 h1 : Nat) (q q' : Nat → Nat) (z : Nat) : gE (X0 Y h0 h1 q q' z) 78 (σ00.1 78) (σ00.2 78) = .inl (Y.2 0, 9, (.inl (fun _ => 0))) := by rw [σ00_0 (by decide)]; rfl
theorem ge_79 (Y : kX) (h0 h1 : Nat) (q q' : Nat → Nat) (z : Nat) : gE (X0 Y h0 h1 q q' z) 79 (σ00.1 79) (σ00.2 79) = .inl (Y.2 0, 8, (.inl (fun _ => 0))) := by rw [σ00_0 (by decide)]; rfl
theorem ge_80 (Y : kX) (h0 h1 : Nat) (q q' : Nat → Nat) (z : Nat) : gE (X0 Y h0 h1 q q' z) 80 (σ00.1 80) (σ00.2 80) = .inr (6, [.int 0, .int 0]) := rfl
theorem ge_81 (Y : kX) (h0 h1 : Nat) (q q' : Nat → Nat) (z : Nat) : gE (X0 Y h0 h1 q q' z) 81 (σ00.1 81) (σ00.2 81) = .inl (Y.2 0, 20, (.inl (fun _ => 0))) := by rw [σ00_0 (by decide)]; rfl
theorem ge_82 (Y : kX) (h0 h1 : Nat) (q q' : Nat → Nat) (z : Nat) : gE (X0 Y h0 h1 q q' z) 82 (σ00.1 82) (σ00.2 82) = .inr (10, [.ref (q' 0), .ref (q' 1), .ref (q' 2), .ref (q' 3), .ref (q' 4), .int 0, .ref (q' 5), .int 0, .ref (q' 6), .ref (q' 7), .ref (q' 8), .int 0, .ref (q' 9), .ref (q' 10), .ref (q' 11), .int 0, .int 0, .ref (q' 12), .ref (q' 13), .ref (q' 14), .int 0, .int 0]) := rfl
theorem ge_83 (Y : kX) (h0 h1 : Nat) (q q' : Nat → Nat) (z : Nat) : gE (X0 Y h0 h1 q q' z) 83 (σ00.1 83) (σ00.2 83) = .inl (Y.2 0, 26, (.inl (fun _ => 0))) := by rw [σ00_0 (by decide)]; rfl
theorem ge_84 (Y : kX) (h0 h1 : Nat) (q q' : Nat → Nat) (z : Nat) : gE (X0 Y h0 h1 q q' z) 84 (σ00.1 84) (σ00.2 84) = .inl (Y.2 0, 26, (.inl (fun _ => 0))) := by rw [σ00_0 (by decide)]; rfl
theorem ge_85 (Y : kX) (h0 h1 : Nat) (q q' : Nat → Nat) (z : Nat) : gE (X0 Y h0 h1 q q' z) 85 (σ00.1 85) (σ00.2 85) = .inl (Y.2 0, 8, (.inl (fun _ => 0))) := by rw [σ00_0 (by decide)]; rfl
theorem ge_86 (Y : kX) (h0 h1 : Nat) (q q' : Nat → Nat) (z : Nat) : gE (X0 Y h0 h1 q q' z) 86 (σ00.1 86) (σ00.2 86) = .inl (Y.2 0, 40, (.inl (fun _ => 0))) := by rw [σ00_0 (by decide)]; rfl
theorem ge_87 (Y : kX) (h0 h1 : Nat) (q q' : Nat → Nat) (z : Nat) : gE (X0 Y h0 h1 q q' z) 87 (σ00.1 87) (σ00.2 87) = .inl (Y.2 0, 40, (.inl (fun _ => 0))) := by rw [σ00_0 (by decide)]; rfl
theorem ge_88 (Y : kX) (h0 h1 : Nat) (q q' : Nat → Nat) (z : Nat) : gE (X0 Y h0 h1 q q' z) 88 (σ00.1 88) (σ00.2 88) = .inl (Y.2 0, 768, (.inl (fun _ => 0))) := by rw [σ00_0 (by decide)]; rfl
theorem ge_89 (Y : kX) (h0 h1 : Nat) (q q' : Nat → Nat) (z : Nat) : gE (X0 Y h0 h1 q q' z) 89 (σ00.1 89) (σ00.2 89) = .inl (Y.2 0, 134, (.inl (fun _ => 0))) := by rw [σ00_0 (by decide)]; rfl
theorem ge_90 (Y : kX) (h0 h1 : Nat) (q q' : Nat → Nat) (z : Nat) : gE (X0 Y h0 h1 q q' z) 90 (σ00.1 90) (σ00.2 90) = .inl (Y.2 2, 2, (.inl (fun _ => 0))) := by rw [σ00_0 (by decide)]; rfl
theorem ge_91 (Y : kX) (h0 h1 : Nat) (q q' : Nat → Nat) (z : Nat) : gE (X0 Y h0 h1 q q' z) 91 (σ00.1 91) (σ00.2 91) = .inl (Y.2 0, 80, (.inl (fun _ => 0))) := by rw [σ00_0 (by decide)]; rfl
theorem ge_92 (Y : kX) (h0 h1 : Nat) (q q' : Nat → Nat) (z : Nat) : gE (X0 Y h0 h1 q q' z) 92 (σ00.1 92) (σ00.2 92) = .inl (Y.2 0, 4, .inl (upd (upd (upd (upd (fun _ => 0) 0 (-1)) 1 (-1)) 2 (-1)) 3 (-1))) := by rw [σ00_92]; rfl
theorem ge_93 (Y : kX) (h0 h1 : Nat) (q q' : Nat → Nat) (z : Nat) : gE (X0 Y h0 h1 q q' z) 93 (σ00.1 93) (σ00.2 93) = .inl (Y.2 0, 4, (.inl (fun _ => 0))) := by rw [σ00_0 (by decide)]; rfl
theorem ge_94 (Y : kX) (h0 h1 : Nat) (q q' : Nat → Nat) (z : Nat) : gE (X0 Y h0 h1 q q' z) 94 (σ00.1 94) (σ00.2 94) = .inl (Y.2 1, 96, (.inr (.inl (fun _ => 0)))) := rfl
theorem ge_95 (Y : kX) (h0 h1 : Nat) (q q' : Nat → Nat) (z : Nat) : gE (X0 Y h0 h1 q q' z) 95 (σ00.1 95) (σ00.2 95) = .inl (Y.2 2, 1000, (.inl (fun _ => 0))) := by rw [σ00_0 (by decide)]; rfl
theorem ge_96 (Y : kX) (h0 h1 : Nat) (q q' : Nat → Nat) (z : Nat) : gE (X0 Y h0 h1 q q' z) 96 (σ00.1 96) (σ00.2 96) = .inl (Y.2 1, 10, (.inr (.inl (fun _ => 0)))) := rfl
theorem ge_97 (Y : kX) (h0 h1 : Nat) (q q' : Nat → Nat) (z : Nat) : gE (X0 Y h0 h1 q q' z) 97 (σ00.1 97) (σ00.2 97) = .inl (Y.2 0, 4000, (.inl (fun _ => 0))) := by rw [σ00_0 (by decide)]; rfl
