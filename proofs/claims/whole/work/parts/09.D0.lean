/-! THE START: the picture of all cells behind both constructors -/
def ad0 (h0 h1 : Nat) (q q' : Nat → Nat) (c : Nat) : Nat := if c = 0 then h0 else if c ≤ 81 then q (c - 1) else if c = 82 then h1 else q' (c - 83)
abbrev X0 (Y : kX) (h0 h1 : Nat) (q q' : Nat → Nat) (z : Nat) : gX := (Y.1, Y.2, ad0 h0 h1 q q', z)
def σ00 : gS := (fun c k => if (c = 56 ∨ c = 58 ∨ c = 60 ∨ c = 62) ∧ k = 0 then -1 else if c = 92 then (upd (upd (upd (upd (fun _ => 0) 0 (-1)) 1 (-1)) 2 (-1)) 3 (-1)) k else 0, fun _ _ => 0)
theorem σ00_92 : σ00.1 92 = upd (upd (upd (upd (fun _ => 0) 0 (-1)) 1 (-1)) 2 (-1)) 3 (-1) := by funext k; unfold σ00; simp
theorem σ00_0 {c : Nat} (h : c ≠ 56 ∧ c ≠ 58 ∧ c ≠ 60 ∧ c ≠ 62 ∧ c ≠ 92) : σ00.1 c = fun _ => 0 := by funext k; unfold σ00; simp [h.1, h.2.1, h.2.2.1, h.2.2.2.1, h.2.2.2.2]
