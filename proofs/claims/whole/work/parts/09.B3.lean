/-! CONSTRUCTORS 2b: jumps, stores -/
section KJ
variable {G : kM} {own : String} {cc : ByteArray} {nL : Nat} {rm : Room} {pc n : Nat} {L L' : List (Nat × Value)} {st : List Value} {cells slots : Nat} {ws : va_W}
theorem k_iinc (ho : kOk G own cc nL rm) {i : Nat} {z : Int} {x v : Int32} (hd : decode cc pc = .ok (.iinc i z, 3)) (hn : pc + 3 = n) (q : Nat) (hq : L[q]? = some (i, .int x)) (hv : x + Int32.ofInt z = v) (hb : i < nL) (hL : (i, Value.int v) :: L.filter (fun q => !(q.1 == i) && !(q.1 + 1 == i && q.2.category == 2)) = L') (k : kAt G n L' st cells slots ws) : kAt G pc L st cells slots ws := by
  subst hn; obtain ⟨⟨p, l, e, R, s, m, args, below, meth, c0⟩, Y, nL0, w0, Wk⟩ := G; exact fun H locs ls hl hP hD hS => lv_iinc ho.1 ho.2.1 hd hl hq hv (by rw [ho.2.2.2.1]; exact hb) hL (fun ls' hl' => k H locs ls' hl' hP hD hS)
theorem k_geT (ho : kOk G own cc nL rm) {x y : Int32} {off : Int} {tgt : Nat} (h : y ≤ x) (hd : decode cc pc = .ok (.if_icmp .ge off, 3)) (ht : (pc : Int) + off = (tgt : Int)) (k : kAt G tgt L st cells slots ws) : kAt G pc L (.int y :: .int x :: st) cells slots ws := by
  obtain ⟨⟨p, l, e, R, s, m, args, below, meth, c0⟩, Y, nL0, w0, Wk⟩ := G; exact fun H locs ls hl hP hD hS => lv_icmp_ge ho.1 ho.2.1 hd ht (fun _ => k H locs ls hl hP hD hS) (fun q => absurd h q)
theorem k_geF (ho : kOk G own cc nL rm) {x y : Int32} {off : Int} {tgt : Nat} (h : ¬ y ≤ x) (hd : decode cc pc = .ok (.if_icmp .ge off, 3)) (ht : (pc : Int) + off = (tgt : Int)) (hn : pc + 3 = n) (k : kAt G n L st cells slots ws) : kAt G pc L (.int y :: .int x :: st) cells slots ws := by
  subst hn; obtain ⟨⟨p, l, e, R, s, m, args, below, meth, c0⟩, Y, nL0, w0, Wk⟩ := G; exact fun H locs ls hl hP hD hS => lv_icmp_ge ho.1 ho.2.1 hd ht (fun q => absurd q h) (fun _ => k H locs ls hl hP hD hS)
theorem k_goto (ho : kOk G own cc nL rm) {off : Int} {tgt : Nat} (hd : decode cc pc = .ok (.goto off, 3)) (ht : (pc : Int) + off = (tgt : Int)) (k : kAt G tgt L st cells slots ws) : kAt G pc L st cells slots ws := by
  obtain ⟨⟨p, l, e, R, s, m, args, below, meth, c0⟩, Y, nL0, w0, Wk⟩ := G; exact fun H locs ls hl hP hD hS => lv_goto ho.1 ho.2.1 hd ht (k H locs ls hl hP hD hS)
theorem k_iast (ho : kOk G own cc nL rm) {N a : Nat} {i x : Int32} {f : Nat → Int32} (q0 : Nat) (he : ws[q0]? = some (a, .inl ((kY G).2 0, N, .inl f))) (hr : inR i N) (hd : decode cc pc = .ok (.iastore, 1)) (hn : pc + 1 = n) (kk : kAt G n L st cells slots (ws.set q0 (a, .inl ((kY G).2 0, N, .inl (upd f i.toNatClampNeg x))))) : kAt G pc L (.int x :: .int i :: .ref a :: st) cells slots ws := by
  subst hn; obtain ⟨⟨p, l, e, R, s, m, args, below, meth, c0⟩, Y, nL0, w0, Wk⟩ := G
  intro H locs ls hl hP hD hS
  exact va_iast (D := Y.1) ho.1 ho.2.1 ho.2.2.2.2.2.2.2.2.2.1 hP hD hS q0 0 he rfl hr hd (fun H1 locs1 hP1 hD1 hS1 => kk H1 locs1 ls hl hP1 hD1 hS1)
end KJ
