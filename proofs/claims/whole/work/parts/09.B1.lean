/-! CONSTRUCTORS 1: fields, new objects, the end, the contract out of a walk -/
def kFf (own : String) (idx ci k : Nat) (ty : FieldType) : Prop := ∃ (C : String) (T : u_T) (N : Nat) (tf : Nat → FieldType), vwCl[ci]? = some (C, T, N) ∧ k < N ∧ (∀ w ∈ u_ws C T N, w ∈ WS) ∧ Cond.fieldLink own idx (T k).1 (T k).2.1 (T k).2.2.1 ∈ WS ∧ (∀ k, k < N → parseFieldDescriptor (T k).2.2.1 = some (tf k)) ∧ (∀ a, a < N → ∀ b, b < N → a ≠ b → (T a).2.1 ≠ (T b).2.1) ∧ (T k).2.2.2 = true ∧ (T k).1 = own ∧ tf k = ty
def kNw (own : String) (idx ci N : Nat) (fs : List Value) : Prop := ∃ (C : String) (T : u_T) (tf : Nat → FieldType), vwCl[ci]? = some (C, T, N) ∧ (∀ w ∈ u_ws C T N, w ∈ WS) ∧ (∀ k, k < N → parseFieldDescriptor (T k).2.2.1 = some (tf k)) ∧ Cond.classLink own idx C ∈ WS ∧ Cond.instantiable C N ∈ WS ∧ Cond.initialized C ∈ WS ∧ (∀ j, j < N → defaultValue (tf j) = vp_V fs j)
section KROWS2
variable {G : kM} {own : String} {cc : ByteArray} {nL : Nat} {rm : Room} {pc n : Nat} {L L' : List (Nat × Value)} {st : List Value} {cells slots : Nat} {ws : va_W}
theorem k_putF (ho : kOk G own cc nL rm) {ci idx k a : Nat} {ty : FieldType} {v : Value} {fs : List Value} (q0 : Nat) (he : ws[q0]? = some (a, .inr (ci, fs))) (hF : kFf own idx ci k ty) (hnr : narrow ty v = v) (hfit : fits ty v = true) (hlen : k < fs.length) (hd : decode cc pc = .ok (.putfield idx, 3)) (hn : pc + 3 = n) (kk : kAt G n L st cells slots (ws.set q0 (a, .inr (ci, fs.set k v)))) : kAt G pc L (v :: .ref a :: st) cells slots ws := by
  subst hn; obtain ⟨⟨p, l, e, R, s, m, args, below, meth, c0⟩, Y, nL0, w0, Wk⟩ := G
  obtain ⟨C, T, N, tf, hcl, hk, hin, hlk, hty, hnm, hfin, hdecl, ht⟩ := hF
  intro H locs ls hl hP hD hS
  refine va_putF (D := Y.1) (ty := ty) ho.1 ho.2.1 ho.2.2.2.2.2.1 hin tf hty hnm ho.2.2.2.2.1 ho.2.2.2.2.2.2.2.2.2.1 hP hD hS q0 he hcl k hk (ho.2.2.2.2.2.1 _ hlk) (fun _ h9 => h9) hfin ho.2.2.2.2.2.2.2.2.2.2.1 hdecl (by rw [hty k hk, ht]) hnr hfit hlen hd (fun H1 locs1 hP1 hD1 hS1 => ?_)
  exact kk H1 locs1 ls hl hP1 hD1 hS1
theorem k_putI (ho : kOk G own cc nL rm) {ci idx k a : Nat} {v : Int32} {fs : List Value} (q0 : Nat) (he : ws[q0]? = some (a, .inr (ci, fs))) (hF : gFp own idx ci k) (hlen : k < fs.length) (hd : decode cc pc = .ok (.putfield idx, 3)) (hn : pc + 3 = n) (kk : kAt G n L st cells slots (ws.set q0 (a, .inr (ci, fs.set k (.int v))))) : kAt G pc L (.int v :: .ref a :: st) cells slots ws := by
  subst hn; obtain ⟨⟨p, l, e, R, s, m, args, below, meth, c0⟩, Y, nL0, w0, Wk⟩ := G
  obtain ⟨C, T, N, tf, hcl, hk, hin, hlk, hty, hnm, hfin, ht⟩ := hF
  intro H locs ls hl hP hD hS
  refine va_put (D := Y.1) (ty := .int) ho.1 ho.2.1 ho.2.2.2.2.2.1 hin tf hty hnm ho.2.2.2.2.1 ho.2.2.2.2.2.2.2.2.2.1 hP hD hS q0 he hcl k hk (ho.2.2.2.2.2.1 _ hlk) (fun _ h9 => h9) hfin (by rw [hty k hk, ht]) rfl rfl hlen hd (fun H1 locs1 hP1 hD1 hS1 => ?_)
  exact kk H1 locs1 ls hl hP1 hD1 hS1
theorem k_get (ho : kOk G own cc nL rm) {ci idx k a : Nat} {v : Value} {fs : List Value} (q0 : Nat) (he : ws[q0]? = some (a, .inr (ci, fs))) (hF : gFl own idx ci k) (hv : fs[k]? = some v) (hd : decode cc pc = .ok (.getfield idx, 3)) (hn : pc + 3 = n) (kk : kAt G n L (v :: st) cells slots ws) : kAt G pc L (.ref a :: st) cells slots ws := by
  subst hn; obtain ⟨⟨p, l, e, R, s, m, args, below, meth, c0⟩, Y, nL0, w0, Wk⟩ := G
  obtain ⟨C, T, N, hcl, hk, hin, hlk⟩ := hF
  intro H locs ls hl hP hD hS
  exact va_get (D := Y.1) ho.1 ho.2.1 ho.2.2.2.2.2.1 hin ho.2.2.2.2.1 ho.2.2.2.2.2.2.2.2.2.1 hP q0 he hcl k hk (ho.2.2.2.2.2.1 _ hlk) (fun _ h9 => h9) hv hd (kk H locs ls hl hP hD hS)
theorem k_new (ho : kOk G own cc nL rm) {ci idx N : Nat} {fs : List Value} (hF : kNw own idx ci N fs) (hc : cells + 1 ≤ rm.cells) (hsl : slots + N ≤ rm.slots) (hd : decode cc pc = .ok (.new idx, 3)) (hn : pc + 3 = n) (kk : ∀ q : Nat, kAt G n L (.ref q :: st) (cells + 1) (slots + N) (ws ++ [(q, .inr (ci, fs))])) : kAt G pc L st cells slots ws := by
  subst hn; obtain ⟨⟨p, l, e, R, s, m, args, below, meth, c0⟩, Y, nL0, w0, Wk⟩ := G
  obtain ⟨C, T, tf, hcl, hin, hty, h1, h2, h3, hfs⟩ := hF
  have hR : R = rm := ho.2.2.2.2.2.2.2.2.1
  have hts := ho.2.2.2.2.2.1
  intro H locs ls hl hP hD hS
  refine va_new (D := Y.1) (ci := ci) (fs := fs) (N := N) ho.1 ho.2.1 hts hin tf hty ho.2.2.2.2.1 (hts _ h1) (hts _ h2) (hts _ h3) ho.2.2.2.2.2.2.2.2.2.1 hP hD hS kAny hcl hfs (by rw [hR]; exact hc) (by rw [hR]; exact hsl) hd (fun q H1 hP1 hD1 hS1 => ?_)
  exact kk q H1 locs ls hl hP1 hD1 hS1
theorem k_ret (ho : kOk G own cc nL rm) (hc : cells = rm.cells) (hsl : slots = rm.slots) (q : Nat → Nat) (hw : kWk G q = ws) (hd : decode cc pc = .ok (.return_, 1)) : kAt G pc L [] cells slots ws := by
  obtain ⟨⟨p, l, e, R, s, m, args, below, meth, c0⟩, Y, nL0, w0, Wk⟩ := G
  have hR : R = rm := ho.2.2.2.2.2.2.2.2.1
  have hw : Wk q = ws := hw
  intro H locs ls hl hP hD hS
  rw [hc, hsl, ← hR]
  exact W.vret ho.1 ho.2.1 ho.2.2.2.2.2.2.2.1 (fun t ht hW => ⟨⟨q, rfl, trivial, by rw [ht, hw]; exact hP, by rw [hw]; exact hD⟩, hS.F ht⟩) hS.2.2 hd ho.2.2.2.2.2.2.1
theorem kCt_of {l : Launch} {Y : kX} {y : MethodName} {as : List Value} {maxL : Nat} {w0 : va_W} {Wk : (Nat → Nat) → va_W} (cc : ByteArray) (hy : plainName y.cls = true) (hy1 : y.name = "<init>") (hlen : (lg_sl as).length ≤ maxL)
    (body : ∀ G : kM, kl G = l → kY G = Y → kw0 G = w0 → kWk G = Wk → kOk G y.cls cc maxL rm → kAt G 0 (lv_args 0 as) [] 0 0 w0) : kCt l Y y (.code y cc maxL none) rm as w0 Wk := by
  intro sz
  refine Met.ofW (cc := cc) (maxL := maxL) (ret := none) hy rfl ?_
  intro p e s m args below meth c s₁ B hml hv
  obtain ⟨rfl, hsz, hP, hK, hD0, hNs⟩ := hv
  subst hsz
  have hts := atoms_spec (ws := Cond.code y cc maxL none :: WS) B.pre
  have hown : s.vm.findClass y.cls = some m.cls := findClass_of_methodNamed B.named
  have hin : meth.name = "<init>" := (name_of_methodNamed B.named B.method).1.trans hy1
  have hb := body ((p, l, e, rm, s, m, as.toArray, below, meth, c), Y, maxL, w0, Wk) rfl rfl rfl rfl ⟨B.exec, B.bytes, hml, rfl, hown, fun w hw => hts w (List.mem_cons_of_mem _ hw), B.notSynchronized, B.returns, rfl, hK, hin, hNs⟩
  rw [lg_entry_eq]
  exact hb s.heap [] _ (lv_entry as hlen) hP (hD0.self (sz := s.heap.size)) va_S.rf
end KROWS2
