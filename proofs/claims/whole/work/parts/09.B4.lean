/-! CONSTRUCTORS 2c: new int[n][m] -/
section KMN
variable {G : kM} {own : String} {cc : ByteArray} {nL : Nat} {rm : Room} {pc n : Nat} {L : List (Nat × Value)} {st : List Value} {cells slots : Nat} {ws : va_W}
theorem k_mna (ho : kOk G own cc nL rm) {idx : Nat} {v u : Int32} {N K : Nat} (hcl : Cond.classLink own idx "[[I" ∈ WS) (hw : Cond.arrayClass .int ∈ WS) (hv : ¬ v < 0) (hu : ¬ u < 0) (hN : v.toNatClampNeg = N) (hK' : u.toNatClampNeg = K) (hb1 : N * 4 ≤ 536870912) (hb2 : K * componentBytes .int ≤ 536870912) (hb3 : K ≤ 536870912) (hz : ∀ c : ClassId, Jvm.Free.Multi.innerC c K (defaultValue .int) = vp_cell c (K, .inl (fun _ => 0))) (hc : cells + (1 + N) ≤ rm.cells) (hsl : slots + (N + N * K) ≤ rm.slots) (hd : decode cc pc = .ok (.multianewarray idx 2, 4)) (hn : pc + 4 = n)
    (k : ∀ (q : Nat) (r : Nat → Nat), kAt G n L (.ref q :: st) (cells + 1 + N) (slots + N + N * K) (ws ++ [(q, .inl ((kY G).2 5, N, .inr (.inr (.inr (.inr (fun j => ((List.range N).map (fun i => some (r i))).getD j none))))))] ++ (List.range N).map (fun i => (r i, .inl ((kY G).2 0, K, .inl (fun _ => 0)))))) : kAt G pc L (.int u :: .int v :: st) cells slots ws := by
  subst hn; obtain ⟨⟨p, l, e, R, s, m, args, below, meth, c0⟩, Y, nL0, w0, Wk⟩ := G
  have hR : R = rm := ho.2.2.2.2.2.2.2.2.1
  have hK := ho.2.2.2.2.2.2.2.2.2.1
  have hts := ho.2.2.2.2.2.1
  have hNs := ho.2.2.2.2.2.2.2.2.2.2.2
  have hcy : s.vm.findClass (FieldType.array .int).toString = some (Y.2 0) := (hK.2 0 (Y.2 0, .int) rfl).2
  intro H locs ls hl hP hD hS
  refine va_mna (D := Y.1) (X := ws) (L := []) (f := fun _ => .inr (0, [])) (ty := .int) (cy := Y.2 0) (z := (K, .inl (fun _ => 0))) ho.1 ho.2.1 ho.2.2.2.2.1 (hts _ hcl) hNs.2.2.2 (hts _ hw) hcy hK (by show va_P _ _ (ws ++ []) H; rw [List.append_nil]; exact hP) (by show va_D _ (ws ++ []); rw [List.append_nil]; exact hD) hS kAny hv hu hN hK' hb1 hb2 hb3 rfl rfl (by rw [hR]; exact hc) (by rw [hR]; exact hsl) hz hd (fun q r cA H1 hri hrn hK1 hP1 hD1 hS1 => ?_)
  have e1 : cA = Y.2 5 := by
    have h1 := (hK.2 5 (Y.2 5, .array .int) rfl).2
    have h2 := (hK1.2 (kTy Y).length (cA, .array .int) (by rw [List.getElem?_append_right (Nat.le_refl _), Nat.sub_self]; rfl)).2
    exact Option.some.inj (Eq.trans (Eq.symm h2) h1)
  subst e1
  have e2 : va_pl ([] ++ (List.range N).map r) (vr_up (fun _ => .inr (0, [])) ((List.range N).map r) (.inl (Y.2 0, (K, .inl (fun _ => 0))))) = (List.range N).map (fun i => (r i, .inl (Y.2 0, K, .inl (fun _ => 0)))) := by
    unfold va_pl
    rw [List.nil_append, List.map_map]
    apply List.map_congr_left
    intro i hi
    show (r i, vr_up _ _ _ (r i)) = _
    rw [vr_up_in (List.mem_map.mpr ⟨i, hi, rfl⟩)]
  have e3 : (fun i => if i < N then some (r i) else none) = (fun j => ((List.range N).map (fun i => some (r i))).getD j none) := by
    funext j
    by_cases h : j < N
    · rw [if_pos h, List.getD_eq_getElem?_getD, List.getElem?_map, List.getElem?_range h]; rfl
    · rw [if_neg h, List.getD_eq_getElem?_getD, List.getElem?_eq_none (by rw [List.length_map, List.length_range]; omega)]; rfl
  rw [e2, e3] at hP1 hD1
  exact k q r H1 locs ls hl hP1 hD1 hS1
end KMN
