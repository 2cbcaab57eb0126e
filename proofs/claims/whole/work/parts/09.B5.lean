/-! CONSTRUCTORS 2d: arrays of references to objects -/
section KQ
variable {G : kM} {own : String} {cc : ByteArray} {nL : Nat} {rm : Room} {pc n : Nat} {L : List (Nat × Value)} {st : List Value} {cells slots : Nat} {ws : va_W}
theorem k_newq (ho : kOk G own cc nL rm) {idx t : Nat} {C : String} {v : Int32} {N : Nat} (hcl : Cond.classLink own idx C ∈ WS) (hao : ∀ U, kNs U → va_AO C U) (ht : (kTy (kY G))[t]? = some ((kY G).2 t, .object C)) (hv : ¬ v < 0) (hN : v.toNatClampNeg = N) (hby : N * 4 ≤ 536870912) (hc : cells + 1 ≤ rm.cells) (hsl : slots + N ≤ rm.slots) (hd : decode cc pc = .ok (.anewarray idx, 3)) (hn : pc + 3 = n)
    (k : ∀ q : Nat, kAt G n L (.ref q :: st) (cells + 1) (slots + N) (ws ++ [(q, .inl ((kY G).2 t, N, .inr (.inr (.inr (.inr (fun _ => none))))))])) : kAt G pc L (.int v :: st) cells slots ws := by
  subst hn; obtain ⟨⟨p, l, e, R, s, m, args, below, meth, c0⟩, Y, nL0, w0, Wk⟩ := G
  have hR : R = rm := ho.2.2.2.2.2.2.2.2.1
  have hK := ho.2.2.2.2.2.2.2.2.2.1
  have hNs := ho.2.2.2.2.2.2.2.2.2.2.2
  intro H locs ls hl hP hD hS
  refine va_newq (D := Y.1) ho.1 ho.2.1 ho.2.2.2.2.1 (ho.2.2.2.2.2.1 _ hcl) (hao s hNs) hK hP hD hS kAny hv hN hby (by rw [hR]; exact hc) (by rw [hR]; exact hsl) hd (fun q cA H1 hK1 hP1 hD1 hS1 => ?_)
  have e1 : cA = Y.2 t := by
    obtain ⟨-, -, -, -, -, h1⟩ := (hK.2 t _ ht).2
    obtain ⟨-, -, -, -, -, h2⟩ := (hK1.2 (kTy Y).length (cA, .object C) (by rw [List.getElem?_append_right (Nat.le_refl _), Nat.sub_self]; rfl)).2
    exact Option.some.inj (Eq.trans (Eq.symm h2) h1)
  subst e1
  exact k q H1 locs ls hl hP1 hD1 hS1
theorem k_astq (ho : kOk G own cc nL rm) {t ci N a v : Nat} {r : vw_C} {vs : List Value} {f : Nat → Option Nat} {i : Int32} (q0 qk : Nat) (ha : ws[q0]? = some (a, .inl ((kY G).2 t, N, .inr (.inr (.inr (.inr f)))))) (ht : (kTy (kY G))[t]? = some ((kY G).2 t, .object r.1)) (hv : ws[qk]? = some (v, .inr (ci, vs))) (hc : vwCl[ci]? = some r) (hr : inR i N) (hd : decode cc pc = .ok (.aastore, 1)) (hn : pc + 1 = n)
    (k : kAt G n L st cells slots (ws.set q0 (a, .inl ((kY G).2 t, N, .inr (.inr (.inr (.inr (va_up f i.toNatClampNeg (some v))))))))) : kAt G pc L (.ref v :: .int i :: .ref a :: st) cells slots ws := by
  subst hn; obtain ⟨⟨p, l, e, R, s, m, args, below, meth, c0⟩, Y, nL0, w0, Wk⟩ := G
  intro H locs ls hl hP hD hS
  exact va_astq (D := Y.1) ho.1 ho.2.1 ho.2.2.2.2.2.2.2.2.2.1 hP hD hS q0 t qk ci ha ht hv hc hr hd (fun H1 locs1 hP1 hD1 hS1 => k H1 locs1 ls hl hP1 hD1 hS1)
end KQ
