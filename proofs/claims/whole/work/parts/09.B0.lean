/-! CONSTRUCTORS 0: a world that grows; a row an instruction -/
abbrev kX : Type := va_G × (Nat → ClassId)
def kTy (Y : kX) : List (ClassId × FieldType) := gTy (Y.1, Y.2, fun _ => 0, 0)
abbrev kQ (Y : kX) (w0 : va_W) (Wk : (Nat → Nat) → va_W) (sz : Nat) : Array Value → State → Outcome → State → Prop := va_Qv (fun _ : Nat → Nat => True) (fun q t => va_P Y.1 vwCl (Wk q) t.heap ∧ va_D (va_A w0 sz) (Wk q)) (va_A w0 sz)
def kCt (l : Launch) (Y : kX) (y : MethodName) (w : Cond) (rm : Room) (as : List Value) (w0 : va_W) (Wk : (Nat → Nat) → va_W) : Prop := ∀ sz : Nat, Met l y (w :: WS) rm (va_Pc as (fun U => U.heap.size = sz ∧ va_P Y.1 vwCl w0 U.heap ∧ va_K Y.1 vwCl (kTy Y) U ∧ va_D (fun _ => True) w0 ∧ kNs U)) (kQ Y w0 Wk sz) rm.cells rm.slots (va_A w0 sz)
abbrev kM : Type := (Program × Launch × Env × Room × State × MethodId × Array Value × List Frame × Method × Code) × kX × Nat × va_W × ((Nat → Nat) → va_W)
def kAt (G : kM) (pc : Nat) (L : List (Nat × Value)) (st : List Value) (cells slots : Nat) (ws : va_W) : Prop :=
  match G with
  | ((p, l, e, R, s, m, args, below, meth, c), Y, nL, w0, Wk) => ∀ (H : Heap) (locs : List Loc) (ls : Array Slot), lv_has ls nL L → va_P Y.1 vwCl ws H → va_D (va_A w0 s.heap.size) ws → va_S (va_A w0 s.heap.size) s.heap H locs → W p l e R s m args below meth c H locs cells slots (MQ below (kQ Y w0 Wk s.heap.size) args s R.cells R.slots (va_A w0 s.heap.size)) (F0 m pc ls st)
def kOk (G : kM) (own : String) (cc : ByteArray) (nL : Nat) (rm : Room) : Prop :=
  match G with
  | ((p, l, e, R, s, m, args, below, meth, c), Y, nL', w0, Wk) => p.tables.exec = Jvm.exec ∧ c.code = cc ∧ c.maxLocals = nL ∧ nL' = nL ∧ s.vm.findClass own = some m.cls ∧ (∀ w ∈ WS, w.before args s = true) ∧ meth.locks = false ∧ meth.sig.returnType = none ∧ R = rm ∧ va_K Y.1 vwCl (kTy Y) s ∧ meth.name = "<init>" ∧ kNs s
abbrev kl (G : kM) : Launch := G.1.2.1
abbrev kY (G : kM) : kX := G.2.1
abbrev kw0 (G : kM) : va_W := G.2.2.2.1
abbrev kWk (G : kM) : (Nat → Nat) → va_W := G.2.2.2.2
section KROWS
variable {G : kM} {own : String} {cc : ByteArray} {nL : Nat} {rm : Room} {pc n : Nat} {L L' : List (Nat × Value)} {st : List Value} {cells slots : Nat} {ws : va_W}
theorem k_iconst (ho : kOk G own cc nL rm) {z : Int} {v : Int32} (hd : decode cc pc = .ok (.iconst z, 1)) (hn : pc + 1 = n) (hv : Int32.ofInt z = v) (k : kAt G n L (.int v :: st) cells slots ws) : kAt G pc L st cells slots ws := by
  subst hn; obtain ⟨⟨p, l, e, R, s, m, args, below, meth, c0⟩, Y, nL0, w0, Wk⟩ := G; exact fun H locs ls hl hP hD hS => lv_iconst ho.1 ho.2.1 hd hv (k H locs ls hl hP hD hS)
theorem k_bipush (ho : kOk G own cc nL rm) {z : Int} {v : Int32} (hd : decode cc pc = .ok (.bipush z, 2)) (hn : pc + 2 = n) (hv : (Int8.ofInt z).toInt32 = v) (k : kAt G n L (.int v :: st) cells slots ws) : kAt G pc L st cells slots ws := by
  subst hn; obtain ⟨⟨p, l, e, R, s, m, args, below, meth, c0⟩, Y, nL0, w0, Wk⟩ := G; exact fun H locs ls hl hP hD hS => lv_bipush ho.1 ho.2.1 hd hv (k H locs ls hl hP hD hS)
theorem k_sipush (ho : kOk G own cc nL rm) {z : Int} {v : Int32} (hd : decode cc pc = .ok (.sipush z, 3)) (hn : pc + 3 = n) (hv : (Int16.ofInt z).toInt32 = v) (k : kAt G n L (.int v :: st) cells slots ws) : kAt G pc L st cells slots ws := by
  subst hn; obtain ⟨⟨p, l, e, R, s, m, args, below, meth, c0⟩, Y, nL0, w0, Wk⟩ := G; exact fun H locs ls hl hP hD hS => lv_sipush ho.1 ho.2.1 hd hv (k H locs ls hl hP hD hS)
theorem k_aload_n (ho : kOk G own cc nL rm) {w : Fin 4} {i x : Nat} (hd : decode cc pc = .ok (.aload_n w, 1)) (hn : pc + 1 = n) (hi : (w : Nat) = i) (q : Nat) (hq : L[q]? = some (i, .ref x)) (k : kAt G n L (.ref x :: st) cells slots ws) : kAt G pc L st cells slots ws := by
  subst hn; obtain ⟨⟨p, l, e, R, s, m, args, below, meth, c0⟩, Y, nL0, w0, Wk⟩ := G; exact fun H locs ls hl hP hD hS => lv_aload_n ho.1 ho.2.1 hd hi (lv_at hl q hq) (k H locs ls hl hP hD hS)
theorem k_iload_n (ho : kOk G own cc nL rm) {w : Fin 4} {i : Nat} {x : Int32} (hd : decode cc pc = .ok (.iload_n w, 1)) (hn : pc + 1 = n) (hi : (w : Nat) = i) (q : Nat) (hq : L[q]? = some (i, .int x)) (k : kAt G n L (.int x :: st) cells slots ws) : kAt G pc L st cells slots ws := by
  subst hn; obtain ⟨⟨p, l, e, R, s, m, args, below, meth, c0⟩, Y, nL0, w0, Wk⟩ := G; exact fun H locs ls hl hP hD hS => lv_iload_n ho.1 ho.2.1 hd hi (lv_at hl q hq) (k H locs ls hl hP hD hS)
theorem k_istore_n (ho : kOk G own cc nL rm) {w : Fin 4} {i : Nat} {x : Int32} (hd : decode cc pc = .ok (.istore_n w, 1)) (hn : pc + 1 = n) (hi : (w : Nat) = i) (hb : i < nL) (hL : (i, Value.int x) :: L.filter (fun q => !(q.1 == i) && !(q.1 + 1 == i && q.2.category == 2)) = L') (k : kAt G n L' st cells slots ws) : kAt G pc L (.int x :: st) cells slots ws := by
  subst hn; obtain ⟨⟨p, l, e, R, s, m, args, below, meth, c0⟩, Y, nL0, w0, Wk⟩ := G; exact fun H locs ls hl hP hD hS => lv_istore_n ho.1 ho.2.1 hd hi hl (by rw [ho.2.2.2.1]; exact hb) hL (fun ls' hl' => k H locs ls' hl' hP hD hS)
theorem k_dup (ho : kOk G own cc nL rm) {v : Value} (hc : v.category = 1) (hd : decode cc pc = .ok (.dup, 1)) (hn : pc + 1 = n) (k : kAt G n L (v :: v :: st) cells slots ws) : kAt G pc L (v :: st) cells slots ws := by
  subst hn; obtain ⟨⟨p, l, e, R, s, m, args, below, meth, c0⟩, Y, nL0, w0, Wk⟩ := G; exact fun H locs ls hl hP hD hS => lv_dup ho.1 ho.2.1 hd hc (k H locs ls hl hP hD hS)
theorem k_obj (ho : kOk G own cc nL rm) {idx x : Nat} (hl0 : Cond.methodLink own idx objectInit ∈ WS) (hi : Cond.instanceMethod objectInit ∈ WS) (hc : Cond.code objectInit ⟨#[0xb1]⟩ 1 none ∈ WS) (hst : st = []) (hf : 1 ≤ rm.frames) (hlo : 12 ≤ rm.locals) (hd : decode cc pc = .ok (.invokespecial idx, 3)) (hn : pc + 3 = n) (k : kAt G n L st cells slots ws) : kAt G pc L (.ref x :: st) cells slots ws := by
  subst hn; subst hst; obtain ⟨⟨p, l, e, R, s, m, args, below, meth, c0⟩, Y, nL0, w0, Wk⟩ := G
  have hR : R = rm := ho.2.2.2.2.2.2.2.2.1
  have hts := ho.2.2.2.2.2.1
  intro H locs ls hl hP hD hS
  refine W.objInit ho.1 ho.2.1 ho.2.2.2.2.1 (hts _ hl0) (hts _ hi) (hts _ hc) rfl (by rw [ho.2.2.1, ← ho.2.2.2.1]; exact hl.1) rfl hd (by rw [hR]; exact hf) (by rw [hR]; exact hlo) ?_
  exact k H locs ls hl hP hD hS
theorem kAny {w0 : va_W} {sz : Nat} : ∀ q : Nat, sz ≤ q → va_A w0 sz q := fun _ h => Or.inr h
/-- new T[n] for ints, longs, booleans -/
theorem k_newa (ho : kOk G own cc nL rm) {atype : ArrayType} {ty : FieldType} {t : Nat} {v : Int32} {N : Nat} {a0 : vp_A} (hw : Cond.arrayClass (newarray.typeOf atype) ∈ WS) (hty : newarray.typeOf atype = ty) (hob : ∀ C, ty ≠ .object C) (ht : (kTy (kY G))[t]? = some ((kY G).2 t, ty)) (ha : ∀ cA : ClassId, vp_cell cA a0 = arrV cA N (fun _ => defaultValue ty)) (hv : ¬ v < 0) (hN : v.toNatClampNeg = N) (hby : N * componentBytes ty ≤ 536870912) (hc : cells + 1 ≤ rm.cells) (hsl : slots + N ≤ rm.slots) (hd : decode cc pc = .ok (.newarray atype, 2)) (hn : pc + 2 = n)
    (k : ∀ q : Nat, kAt G n L (.ref q :: st) (cells + 1) (slots + N) (ws ++ [(q, .inl ((kY G).2 t, a0))])) : kAt G pc L (.int v :: st) cells slots ws := by
  subst hn; obtain ⟨⟨p, l, e, R, s, m, args, below, meth, c0⟩, Y, nL0, w0, Wk⟩ := G
  have hR : R = rm := ho.2.2.2.2.2.2.2.2.1
  have hK := ho.2.2.2.2.2.2.2.2.2.1
  intro H locs ls hl hP hD hS
  refine va_newa (D := Y.1) (ty := ty) (a0 := a0) (N' := N) ho.1 ho.2.1 (ho.2.2.2.2.2.1 _ hw) hty hK hP hD hS kAny ha hv hN hby (by rw [hR]; exact hc) (by rw [hR]; exact hsl) hd (fun q cA H1 hK1 hP1 hD1 hS1 => ?_)
  have e1 : cA = Y.2 t := by
    have h1 := (hK.2 t _ ht).2
    have h2 := (hK1.2 (kTy Y).length (cA, ty) (by rw [List.getElem?_append_right (Nat.le_refl _), Nat.sub_self]; rfl)).2
    have key : ∀ ty : FieldType, (∀ C, ty ≠ .object C) → ∀ a b : ClassId, va_RA s a ty → va_RA s b ty → b = a := by
      intro ty hob a b h1 h2
      cases ty with
      | object C => exact absurd rfl (hob C)
      | _ => exact Option.some.inj (Eq.trans (Eq.symm h2) h1)
    exact key ty hob _ _ h1 h2
  subst e1
  exact k q H1 locs ls hl hP1 hD1 hS1
end KROWS
