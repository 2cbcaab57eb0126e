/-! CONSTRUCTORS 2: calls of constructors -/
theorem ix_R (w1 wc : va_W) : (List.range w1.length).map (fun i => (w1 ++ wc)[i]?) = w1.map some := by
  apply List.ext_getElem?
  intro k
  by_cases h : k < w1.length
  · rw [List.getElem?_map, List.getElem?_range h, List.getElem?_map, Option.map_some, List.getElem?_append_left h, List.getElem?_eq_getElem h]; rfl
  · rw [List.getElem?_eq_none (by rw [List.length_map, List.length_range]; omega), List.getElem?_eq_none (by rw [List.length_map]; omega)]
theorem ix_C (w1 wc : va_W) : ((List.range wc.length).map (fun i => w1.length + i)).map (fun i => (w1 ++ wc)[i]?) = wc.map some := by
  apply List.ext_getElem?
  intro k
  by_cases h : k < wc.length
  · rw [List.getElem?_map, List.getElem?_map, List.getElem?_range h, List.getElem?_map, Option.map_some, Option.map_some, List.getElem?_append_right (by omega), Nat.add_sub_cancel_left, List.getElem?_eq_getElem h]; rfl
  · rw [List.getElem?_eq_none (by rw [List.length_map, List.length_map, List.length_range]; omega), List.getElem?_eq_none (by rw [List.length_map]; omega)]
theorem nd_of : ∀ (l : List Nat), l.Nodup → va_nd l = true
  | [], _ => rfl
  | a :: l, h => by
    rw [List.nodup_cons] at h
    unfold va_nd
    rw [nd_of l h.2, Bool.and_true]
    exact decide_eq_true h.1
theorem ix_d (w1 wc : va_W) : ∀ i ∈ List.range w1.length, i ∉ (List.range wc.length).map (fun i => w1.length + i) := by
  intro i hi hc
  rw [List.mem_range] at hi
  obtain ⟨j, -, e⟩ := List.mem_map.mp hc
  omega
def kT0 (y : MethodName) (bytes : ByteArray) (maxL na : Nat) : Prop := Cond.code y bytes maxL none ∈ WS ∧ Cond.initialized y.cls ∈ WS ∧ Cond.instanceMethod y ∈ WS ∧ y.name = "<init>" ∧ (y.cls ≠ "java/lang/invoke/MethodHandle" ∧ y.cls ≠ "java/lang/invoke/VarHandle" ∧ (parseMethodDescriptor y.desc).map (fun d => d.parameters.length) = some na)
section KCALL
variable {G : kM} {own : String} {cc : ByteArray} {nL : Nat} {rm : Room} {pc n : Nat} {L L' : List (Nat × Value)} {st : List Value} {cells slots : Nat} {ws : va_W}
theorem kPre {s : State} {H : Heap} {Y : kX} {wc : va_W} {as : List Value} {A0 : Nat → Prop} (hP : va_P Y.1 vwCl wc H) (hK : va_K Y.1 vwCl (kTy Y) s) (hD : va_D A0 wc) (hN : kNs s) : PreS s H (va_Pc as (fun U => U.heap.size = H.size ∧ va_P Y.1 vwCl wc U.heap ∧ va_K Y.1 vwCl (kTy Y) U ∧ va_D (fun _ => True) wc ∧ kNs U)) as :=
  ⟨fun a U g mk q => by obtain ⟨q0, q1, qP, qK, qD, qN⟩ := q; exact ⟨q0, q1, qP, va_K.moved (u := U) (U := U.calling g mk a) (Vm.Alike.refl U.vm) qK, qD, qN.call⟩, fun U hU hW => ⟨rfl, by rw [hU], by rw [hU]; exact hP, va_K.moved hW.alike hK, hD.weaken (fun _ _ _ _ => trivial), hN.warm hW⟩⟩
theorem k_callN (ho : kOk G own cc nL rm) {y : MethodName} {bytes : ByteArray} {maxL na idx b : Nat} {host : String} {rm' : Room} {as st0 : List Value} {w1 wc : va_W} {Wk' : (Nat → Nat) → va_W} (hy : kT0 y bytes maxL na) (hl : Cond.methodLinkNest own idx y host ∈ nws) (hM : kCt (kl G) (kY G) y (.code y bytes maxL none) rm' (.ref b :: as) wc Wk') (hna : as.length = na) (hs : st0 = as.reverse ++ .ref b :: st) (hws : ws = w1 ++ wc) (hfr : rm'.frames + 1 ≤ rm.frames ∧ 8 + (maxL + 11) + rm'.locals ≤ rm.locals) (hst : (st.map fun v => v.category).sum ≤ 8) (hf : cells + rm'.cells ≤ rm.cells ∧ slots + rm'.slots ≤ rm.slots) (hd : decode cc pc = .ok (.invokespecial idx, 3)) (hn : pc + 3 = n)
    (kk : ∀ q : Nat → Nat, kAt G n L st (cells + rm'.cells) (slots + rm'.slots) (w1 ++ Wk' q)) : kAt G pc L st0 cells slots ws := by
  subst hn; subst hws; obtain ⟨⟨p, l, e, R, s, m, args, below, meth, c0⟩, Y, nL0, w0, Wk⟩ := G
  obtain ⟨hcode, hini, hins, hy1, hdsc⟩ := hy
  have hR : R = rm := ho.2.2.2.2.2.2.2.2.1
  have hts := ho.2.2.2.2.2.1
  have hK := ho.2.2.2.2.2.2.2.2.2.1
  have hN := ho.2.2.2.2.2.2.2.2.2.2.2
  intro H locs ls hl0 hP hD hS
  have hPc : va_P Y.1 vwCl wc H := fun k q hk => hP (w1.length + k) q (by rw [List.getElem?_append_right (by omega), Nat.add_sub_cancel_left]; exact hk)
  have hDc : va_D (va_A w0 s.heap.size) wc := ⟨fun i j x z hi hj e => by
    have := hD.1 (w1.length + i) (w1.length + j) x z (by rw [List.getElem?_append_right (by omega), Nat.add_sub_cancel_left]; exact hi) (by rw [List.getElem?_append_right (by omega), Nat.add_sub_cancel_left]; exact hj) e
    omega, fun k q hk => hD.2 (w1.length + k) q (by rw [List.getElem?_append_right (by omega), Nat.add_sub_cancel_left]; exact hk)⟩
  have hFc := va_free (wc := wc) hD hS kAny ((List.range wc.length).map (fun i => w1.length + i)) (ix_C w1 wc)
  have hrun := va_runIN (g := F0 m pc ls st0) (rest := st) (As := as) (cells := cells) (slots := slots) (locs := locs) (e := e) (below := below) (meth := meth) (nL := nL) (host := host) ⟨ho.1, ho.2.1, ho.2.2.1, ho.2.2.2.2.1, hts⟩ (hM H.size) (index := idx) (n := na) (R := R) (b := b) (H := H) ⟨va_cnB na hts (WS_cons hcode) rfl rfl rfl (hN.1 _ hl) (hts _ hini) hdsc (by rw [hR]; exact hfr), hy1, hts _ hins⟩ (kPre hPc hK hDc hN) rfl hna (by show ls.size = nL; rw [← ho.2.2.2.1]; exact hl0.1) hs (lv_room hst) hd (by rw [hR]; exact hf)
  refine va_callv hrun hS (fun q _ h => hFc q h) hFc (fun u t H1 locs1 ht hvm _ hB hz1 hk1 hS1 => ?_)
  obtain ⟨hP1, hD1⟩ := hB
  rw [ht] at hP1
  obtain ⟨hP2, hD2⟩ := va_join (wr := w1) (w1 := Wk' u) hP hD ((List.range wc.length).map (fun i => w1.length + i)) (List.range w1.length) (ix_C w1 wc) (ix_R w1 wc) (nd_of _ List.nodup_range) (ix_d w1 wc) hk1 hFc hP1 hD1
  exact kk u H1 locs1 ls hl0 hP2 hD2 hS1
theorem k_callL (ho : kOk G own cc nL rm) {y : MethodName} {bytes : ByteArray} {maxL na idx b : Nat} {rm' : Room} {as st0 : List Value} {w1 wc : va_W} {Wk' : (Nat → Nat) → va_W} (hy : kT0 y bytes maxL na) (hl : Cond.methodLink own idx y ∈ WS) (hM : kCt (kl G) (kY G) y (.code y bytes maxL none) rm' (.ref b :: as) wc Wk') (hna : as.length = na) (hs : st0 = as.reverse ++ .ref b :: st) (hws : ws = w1 ++ wc) (hfr : rm'.frames + 1 ≤ rm.frames ∧ 8 + (maxL + 11) + rm'.locals ≤ rm.locals) (hst : (st.map fun v => v.category).sum ≤ 8) (hf : cells + rm'.cells ≤ rm.cells ∧ slots + rm'.slots ≤ rm.slots) (hd : decode cc pc = .ok (.invokespecial idx, 3)) (hn : pc + 3 = n)
    (kk : ∀ q : Nat → Nat, kAt G n L st (cells + rm'.cells) (slots + rm'.slots) (w1 ++ Wk' q)) : kAt G pc L st0 cells slots ws := by
  subst hn; subst hws; obtain ⟨⟨p, l, e, R, s, m, args, below, meth, c0⟩, Y, nL0, w0, Wk⟩ := G
  obtain ⟨hcode, hini, hins, hy1, hdsc⟩ := hy
  have hR : R = rm := ho.2.2.2.2.2.2.2.2.1
  have hts := ho.2.2.2.2.2.1
  have hK := ho.2.2.2.2.2.2.2.2.2.1
  have hN := ho.2.2.2.2.2.2.2.2.2.2.2
  intro H locs ls hl0 hP hD hS
  have hPc : va_P Y.1 vwCl wc H := fun k q hk => hP (w1.length + k) q (by rw [List.getElem?_append_right (by omega), Nat.add_sub_cancel_left]; exact hk)
  have hDc : va_D (va_A w0 s.heap.size) wc := ⟨fun i j x z hi hj e => by
    have := hD.1 (w1.length + i) (w1.length + j) x z (by rw [List.getElem?_append_right (by omega), Nat.add_sub_cancel_left]; exact hi) (by rw [List.getElem?_append_right (by omega), Nat.add_sub_cancel_left]; exact hj) e
    omega, fun k q hk => hD.2 (w1.length + k) q (by rw [List.getElem?_append_right (by omega), Nat.add_sub_cancel_left]; exact hk)⟩
  have hFc := va_free (wc := wc) hD hS kAny ((List.range wc.length).map (fun i => w1.length + i)) (ix_C w1 wc)
  have hrun := va_runI (g := F0 m pc ls st0) (rest := st) (As := as) (cells := cells) (slots := slots) (locs := locs) (e := e) (below := below) (meth := meth) (nL := nL) ⟨ho.1, ho.2.1, ho.2.2.1, ho.2.2.2.2.1, hts⟩ (hM H.size) (index := idx) (n := na) (R := R) (b := b) (H := H) (cwI na hts (WS_cons hcode) rfl rfl rfl (hts _ hini) (hts _ hl) (hts _ hins) hy1 hdsc (by rw [hR]; exact hfr)) (kPre hPc hK hDc hN) rfl hna (by show ls.size = nL; rw [← ho.2.2.2.1]; exact hl0.1) hs (lv_room hst) hd (by rw [hR]; exact hf)
  refine va_callv hrun hS (fun q _ h => hFc q h) hFc (fun u t H1 locs1 ht hvm _ hB hz1 hk1 hS1 => ?_)
  obtain ⟨hP1, hD1⟩ := hB
  rw [ht] at hP1
  obtain ⟨hP2, hD2⟩ := va_join (wr := w1) (w1 := Wk' u) hP hD ((List.range wc.length).map (fun i => w1.length + i)) (List.range w1.length) (ix_C w1 wc) (ix_R w1 wc) (nd_of _ List.nodup_range) (ix_d w1 wc) hk1 hFc hP1 hD1
  exact kk u H1 locs1 ls hl0 hP2 hD2 hS1
end KCALL
