/-! THE LAW 5: what holds at its entry -/
theorem zs_cls {own : String} {idx ci N : Nat} {fs : List Value} {args : Array Value} {s : State} (h : kNw own idx ci N fs) (hts : ∀ w ∈ WS, w.before args s = true) : ∃ (cC : ClassId) (iS : Nat → Nat), ∀ q, vwCl[ci]? = some q → u_Kn s q.1 q.2.1 q.2.2 cC iS := by
  obtain ⟨C, T, tf, hcl, hin, -, -, h2, -, -⟩ := h
  obtain ⟨cC, iS, hk⟩ := u_known hts hin (hts _ h2)
  exact ⟨cC, iS, fun q hq => by rw [hcl] at hq; cases hq; exact hk⟩
theorem zs_D {args : Array Value} {s : State} (hts : ∀ w ∈ WS, w.before args s = true) : ∃ D : va_G, ∀ (c : Nat) (q : vw_C), vwCl[c]? = some q → u_Kn s q.1 q.2.1 q.2.2 (D.1 c) (D.2 c) := by
  have key : ∀ c : Nat, ∃ z : ClassId × (Nat → Nat), ∀ q, vwCl[c]? = some q → u_Kn s q.1 q.2.1 q.2.2 z.1 z.2 := by
    intro c
    match c with
    | 0 => obtain ⟨a, b, h⟩ := zs_cls kn_X11_57 hts; exact ⟨(a, b), h⟩
    | 1 => obtain ⟨a, b, h⟩ := zs_cls kn_X11_64 hts; exact ⟨(a, b), h⟩
    | 2 => obtain ⟨a, b, h⟩ := zs_cls kn_X6_7 hts; exact ⟨(a, b), h⟩
    | 3 => obtain ⟨a, b, h⟩ := zs_cls kn_X11_32 hts; exact ⟨(a, b), h⟩
    | 4 => obtain ⟨a, b, h⟩ := zs_cls kn_X11_50 hts; exact ⟨(a, b), h⟩
    | 5 => obtain ⟨a, b, h⟩ := zs_cls kn_X11_16 hts; exact ⟨(a, b), h⟩
    | 6 => obtain ⟨a, b, h⟩ := zs_cls kn_X11_71 hts; exact ⟨(a, b), h⟩
    | 7 => obtain ⟨a, b, h⟩ := zs_cls kn_X11_43 hts; exact ⟨(a, b), h⟩
    | 8 => obtain ⟨a, b, h⟩ := zs_cls kn_X11_7 hts; exact ⟨(a, b), h⟩
    | 9 => obtain ⟨a, b, h⟩ := zs_cls kn_L_7 hts; exact ⟨(a, b), h⟩
    | 10 => obtain ⟨a, b, h⟩ := zs_cls kn_L_10 hts; exact ⟨(a, b), h⟩
    | c + 11 =>
      obtain ⟨a, b, -⟩ := zs_cls kn_L_7 hts
      refine ⟨(a, b), fun q hq => ?_⟩
      rw [List.getElem?_eq_none (show vwCl.length ≤ c + 11 from Nat.le_add_left 11 c)] at hq
      cases hq
  obtain ⟨f, hf⟩ := Classical.axiomOfChoice key
  exact ⟨(fun c => (f c).1, fun c => (f c).2), hf⟩
theorem zs_aP {args : Array Value} {s : State} {ty : FieldType} (h : (Cond.arrayClass ty).before args s = true) (hob : ∀ C, ty ≠ .object C) : ∃ cA, ArrOfT s cA ty ∧ va_RA s cA ty := by
  obtain ⟨c, k, comp, h1, h2, h3⟩ := Cond.arrayClass_spec h
  refine ⟨c, fun n z => ⟨fun k h => (by cases h), k, h2, comp, h3⟩, ?_⟩
  cases ty with
  | object C => exact absurd rfl (hob C)
  | _ => exact h1
theorem zs_aO {args : Array Value} {s : State} {C : String} (h : (Cond.arrayOver (.object C)).before args s = true) : ∃ cA, ArrOfT s cA (.object C) ∧ va_RA s cA (.object C) := by
  obtain ⟨comp, c, k, h1, h2, h3, h4, h5⟩ := Cond.arrayOver_spec h
  exact ⟨c, fun n z => ⟨fun k h => (by cases h), k, h3, comp, h4⟩, k, comp, h3, h4, h1, h5⟩
theorem zs_aA {args : Array Value} {s : State} (h : (Cond.arrayOver (.array .int)).before args s = true) : ∃ cA, ArrOfT s cA (.array .int) ∧ va_RA s cA (.array .int) := by
  obtain ⟨comp, c, k, h1, h2, h3, h4, h5⟩ := Jvm.Stand.arrayOver_specB h
  exact ⟨c, fun n z => ⟨fun k h => (by cases h), k, h3, comp, h4⟩, h5⟩
theorem zs_o1 : Cond.arrayOver (.object "WaxCloth$Cloth") ∈ lw_tbl := List.mem_of_getElem? (i := 177) (by decide +kernel)
theorem zs_o2 : Cond.arrayOver (.object "WaxCloth$Sheet") ∈ lw_tbl := List.mem_of_getElem? (i := 179) (by decide +kernel)
theorem zs_o3 : Cond.arrayOver (.array .int) ∈ lw_tbl := List.mem_of_getElem? (i := 165) (by decide +kernel)
theorem zs_ls : Cond.laysStatic "WaxCloth$Kind" "ABOVE" "[I" ∈ lw_tbl := List.mem_of_getElem? (i := 430) (by decide +kernel)
theorem zs_in : Cond.initialized "WaxCloth$Kind" ∈ lw_tbl := List.mem_of_getElem? (i := 54) (by decide +kernel)
theorem ml_L_9 : Cond.methodLink "WaxClothLaw" 9 yX11_init ∈ WS := ws_in 61 (by decide +kernel) (by decide +kernel)
theorem ml_L_12 : Cond.methodLink "WaxClothLaw" 12 yX12_init ∈ WS := ws_in 781 (by decide +kernel) (by decide +kernel)
theorem zs_nw : ∀ w ∈ nws, w ∈ lw_tbl := by
  intro w hw
  unfold nws at hw
  simp only [List.mem_cons, List.not_mem_nil, or_false] at hw
  rcases hw with rfl | rfl | rfl | rfl | rfl | rfl | rfl | rfl | rfl
  · exact List.mem_of_getElem? (i := 69) (by decide +kernel)
  · exact List.mem_of_getElem? (i := 90) (by decide +kernel)
  · exact List.mem_of_getElem? (i := 157) (by decide +kernel)
  · exact List.mem_of_getElem? (i := 160) (by decide +kernel)
  · exact List.mem_of_getElem? (i := 181) (by decide +kernel)
  · exact List.mem_of_getElem? (i := 200) (by decide +kernel)
  · exact List.mem_of_getElem? (i := 226) (by decide +kernel)
  · exact List.mem_of_getElem? (i := 251) (by decide +kernel)
  · exact List.mem_of_getElem? (i := 280) (by decide +kernel)
theorem zs_N {args : Array Value} {s : State} (hts : ∀ w ∈ lw_tbl, w.before args s = true) : kNs s := by
  refine ⟨fun w hw => ?_, va_AO.of (hts _ zs_o1), va_AO.of (hts _ zs_o2), va_AOA.of (hts _ zs_o3)⟩
  have h := hts w (zs_nw w hw)
  obtain ⟨a, i, x, y, rfl⟩ := nws_form w hw
  exact va_Nw.of rfl h
theorem zs_K {args : Array Value} {s : State} (hts : ∀ w ∈ lw_tbl, w.before args s = true) : ∃ Y : kX, va_K Y.1 vwCl (kTy Y) s := by
  have htw : ∀ w ∈ WS, w.before args s = true := fun w hw => hts w (WS_good w hw).1
  obtain ⟨D, hD⟩ := zs_D htw
  obtain ⟨c0, h0⟩ := zs_aP (htw _ wa_int) (fun C h => by cases h)
  obtain ⟨c1, h1⟩ := zs_aP (htw _ wa_long) (fun C h => by cases h)
  obtain ⟨c2, h2⟩ := zs_aP (htw _ wa_boolean) (fun C h => by cases h)
  obtain ⟨c3, h3⟩ := zs_aO (hts _ zs_o1)
  obtain ⟨c4, h4⟩ := zs_aO (hts _ zs_o2)
  obtain ⟨c5, h5⟩ := zs_aA (hts _ zs_o3)
  refine ⟨(D, fun k => match k with | 0 => c0 | 1 => c1 | 2 => c2 | 3 => c3 | 4 => c4 | _ => c5), hD, ?_⟩
  intro k q hq
  match k, hq with
  | 0, hq => cases hq; exact h0
  | 1, hq => cases hq; exact h1
  | 2, hq => cases hq; exact h2
  | 3, hq => cases hq; exact h3
  | 4, hq => cases hq; exact h4
  | 5, hq => cases hq; exact h5
  | k + 6, hq => simp [kTy, gTy] at hq
theorem zs_Z {args : Array Value} {s : State} {A : Nat → Prop} (hts : ∀ w ∈ lw_tbl, w.before args s = true) (hgv : (Jvm.Cond.and given_1 narrow_1).before args s = true) (hA : ∀ a : Nat, a < s.heap.size → ¬ A a) : ∃ z : Nat, va_Z "WaxCloth$Kind" "ABOVE" "[I" (.ref z) A s s.heap ∧ va_T .int z 6 (fun j => .int (abv j)) A s s.heap := by
  have hf := flat_of_before _ hgv
  have e0 : (Cond.arrayOf (.static "WaxCloth$Kind" "ABOVE" "[I") .int).before args s = true := hf _ (by decide +kernel)
  have e1 := va_eqt (hf (.eq (.length (.static "WaxCloth$Kind" "ABOVE" "[I")) (.int 6)) (by decide +kernel))
  have el : ∀ j : Nat, j < 6 → (Term.elem (.static "WaxCloth$Kind" "ABOVE" "[I") (.int (Int32.ofNat j))).eval args s none [] s = some (.int (abv j)) := by
    intro j hj
    have : j = 0 ∨ j = 1 ∨ j = 2 ∨ j = 3 ∨ j = 4 ∨ j = 5 := by omega
    rcases this with rfl | rfl | rfl | rfl | rfl | rfl
    · exact va_eqt (hf (.eq (.elem (.static "WaxCloth$Kind" "ABOVE" "[I") (.int 0)) (.int (-1))) (by decide +kernel))
    · exact va_eqt (hf (.eq (.elem (.static "WaxCloth$Kind" "ABOVE" "[I") (.int 1)) (.int 0)) (by decide +kernel))
    · exact va_eqt (hf (.eq (.elem (.static "WaxCloth$Kind" "ABOVE" "[I") (.int 2)) (.int 1)) (by decide +kernel))
    · exact va_eqt (hf (.eq (.elem (.static "WaxCloth$Kind" "ABOVE" "[I") (.int 3)) (.int 1)) (by decide +kernel))
    · exact va_eqt (hf (.eq (.elem (.static "WaxCloth$Kind" "ABOVE" "[I") (.int 4)) (.int 0)) (by decide +kernel))
    · exact va_eqt (hf (.eq (.elem (.static "WaxCloth$Kind" "ABOVE" "[I") (.int 5)) (.int 4)) (by decide +kernel))
  obtain ⟨t, ht, hT⟩ := va_Tof (N := 6) (f := fun j => .int (abv j)) (by decide) e0 e1 el hA
  exact ⟨t, va_Zof (hts _ zs_ls) (hts _ zs_in) ht hA, hT⟩
section ZMK
variable {p : Program} {l : Launch} {e : Env} {s : State} {m : MethodId} {args : Array Value} {below : List Frame} {meth : Method} {c : Code} {Q : State → Prop}
theorem z_mk {Y : kX} (hx : p.tables.exec = Jvm.exec) (hb : c.code = code) (hml : c.maxLocals = 4) (hown : s.vm.findClass "WaxClothLaw" = some m.cls) (hts : ∀ w ∈ WS, w.before args s = true) (hK : va_K Y.1 vwCl (kTy Y) s) (hN : kNs s) {ws : va_W} {H : Heap} {locs : List Loc} (hP : va_P Y.1 vwCl ws H) (hD : va_D (fun q : Nat => s.heap.size ≤ q) ws) (hS : va_S (fun q : Nat => s.heap.size ≤ q) s.heap H locs) {idx idx2 ci N cells slots pc maxL : Nat} {ls : Array Slot} {fs : List Value} {y : MethodName} {bytes : ByteArray} {rm' : Room} {Wk : Nat → (Nat → Nat) → va_W} (hnw : kNw "WaxClothLaw" idx ci N fs) (hy : kT0 y bytes maxL 0) (hlk : Cond.methodLink "WaxClothLaw" idx2 y ∈ WS) (hM : ∀ h0 : Nat, kCt l Y y (.code y bytes maxL none) rm' [.ref h0] [(h0, .inr (ci, fs))] (Wk h0)) (hc : cells + 1 + rm'.cells ≤ 600000) (hsl : slots + N + rm'.slots ≤ 7302249) (hfr : rm'.frames + 1 ≤ 2048 ∧ 8 + (maxL + 11) + rm'.locals ≤ 84000) (hls : ls.size = 4) (d0 : decode code pc = .ok (.new idx, 3)) (d3 : decode code (pc + 3) = .ok (.dup, 1)) (d4 : decode code (pc + 4) = .ok (.invokespecial idx2, 3))
    (kk : ∀ (h0 : Nat) (q : Nat → Nat) (H1 : Heap) (locs1 : List Loc), va_P Y.1 vwCl (ws ++ Wk h0 q) H1 → va_D (fun q : Nat => s.heap.size ≤ q) (ws ++ Wk h0 q) → va_S (fun q : Nat => s.heap.size ≤ q) s.heap H1 locs1 → W p l e room_1 s m args below meth c H1 locs1 (cells + 1 + rm'.cells) (slots + N + rm'.slots) Q (F0 m (pc + 7) ls [.ref h0])) : W p l e room_1 s m args below meth c H locs cells slots Q (F0 m pc ls []) := by
  obtain ⟨C, T, tf, hcl, hin, hty, h1, h2, h3, hfs⟩ := hnw
  obtain ⟨hcode, hini, hins, hy1, hdsc⟩ := hy
  have hA : ∀ q : Nat, s.heap.size ≤ q → (fun q : Nat => s.heap.size ≤ q) q := fun _ h => h
  refine va_new (D := Y.1) (ci := ci) (fs := fs) (N := N) hx hb hts hin tf hty hown (hts _ h1) (hts _ h2) (hts _ h3) hK hP hD hS hA hcl hfs (by show cells + 1 ≤ 600000; omega) (by show slots + N ≤ 7302249; omega) d0 (fun h0 H hP hD hS => ?_)
  refine lv_dup hx hb d3 rfl ?_
  have hPc : va_P Y.1 vwCl [(h0, .inr (ci, fs))] H := fun k q hk => hP (ws.length + k) q (by rw [List.getElem?_append_right (by omega), Nat.add_sub_cancel_left]; exact hk)
  have hDc : va_D (fun q : Nat => s.heap.size ≤ q) [(h0, .inr (ci, fs))] := ⟨fun i j x z hi hj e => by
    have := hD.1 (ws.length + i) (ws.length + j) x z (by rw [List.getElem?_append_right (by omega), Nat.add_sub_cancel_left]; exact hi) (by rw [List.getElem?_append_right (by omega), Nat.add_sub_cancel_left]; exact hj) e
    omega, fun k q hk => hD.2 (ws.length + k) q (by rw [List.getElem?_append_right (by omega), Nat.add_sub_cancel_left]; exact hk)⟩
  have hFc := va_free (wc := [(h0, .inr (ci, fs))]) hD hS hA ((List.range [((h0, .inr (ci, fs)) : Nat × va_E)].length).map (fun i => ws.length + i)) (ix_C ws _)
  have hrun := va_runI (g := F0 m (pc + 4) ls [.ref h0, .ref h0]) (rest := [.ref h0]) (As := []) (cells := cells + 1) (slots := slots + N) (locs := locs) (e := e) (below := below) (meth := meth) (nL := 4) (own := "WaxClothLaw") ⟨hx, hb, hml, hown, hts⟩ (hM h0 H.size) (index := idx2) (n := 0) (R := room_1) (b := h0) (H := H) (cwI 0 hts (WS_cons hcode) rfl rfl rfl (hts _ hini) (hts _ hlk) (hts _ hins) hy1 hdsc hfr) (kPre hPc hK hDc hN) rfl rfl hls rfl (lv_room (Nat.le_of_ble_eq_true rfl)) d4 ⟨hc, hsl⟩
  refine va_callv hrun hS (fun q _ h => hFc q h) hFc (fun u t H1 locs1 ht hvm _ hB hz1 hk1 hS1 => ?_)
  obtain ⟨hP1, hD1⟩ := hB
  rw [ht] at hP1
  obtain ⟨hP2, hD2⟩ := va_join (wr := ws) (w1 := Wk h0 u) hP hD ((List.range [((h0, .inr (ci, fs)) : Nat × va_E)].length).map (fun i => ws.length + i)) (List.range ws.length) (ix_C ws _) (ix_R ws _) (nd_of _ List.nodup_range) (ix_d ws _) hk1 hFc hP1 hD1
  exact kk h0 u H1 locs1 hP2 hD2 hS1
end ZMK
