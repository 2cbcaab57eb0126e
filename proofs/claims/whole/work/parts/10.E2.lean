/-! THE LAW 2: its judgement, a row an instruction -/
abbrev zM : Type := (Program × Launch × Env × State × MethodId × List Frame × Method × Code) × gX × Nat × Nat × (Nat → Int32)
abbrev zl (G : zM) : Launch := G.1.2.1
abbrev zX (G : zM) : gX := G.2.1
abbrev zad (G : zM) : Nat → Nat := G.2.1.2.2.1
abbrev zL (G : zM) : Nat := G.2.2.2.1
abbrev zx (G : zM) : Nat → Int32 := G.2.2.2.2
def zAt (G : zM) (j pc : Nat) (st : List Value) (σ : gS) : Prop :=
  match G with
  | ((p, l, e, s, m, below, meth, c), X, b, L, xs) => ∀ (H : Heap) (locs : List Loc) (ls : Array Slot), lv_has ls 4 [(0, .ref b), (1, .ref (X.2.2.1 0)), (2, .ref (X.2.2.1 82)), (3, .int (nI j))] → va_P X.1 vwCl (gw X σ) H → va_S (fun q : Nat => s.heap.size ≤ q) s.heap H locs → W p l e room_1 s m #[Value.ref b] below meth c H locs 600000 7302249 (lw_Z below #[Value.ref b] s) (F0 m pc ls st)
def zOk (G : zM) : Prop :=
  match G with
  | ((p, l, e, s, m, below, meth, c), X, b, L, xs) => lw_At p s m meth c b L xs ∧ va_K X.1 vwCl (gTy X) s ∧ gDj X ∧ gZ X s s.heap ∧ (∀ k, k < NC → s.heap.size ≤ X.2.2.1 k) ∧ L ≤ 3584
theorem and31 (x : Int32) : ∃ k, k < 32 ∧ x &&& 31 = nI k := by
  refine ⟨(x &&& 31).toBitVec.toNat, ?_, ?_⟩
  · show (x.toBitVec &&& (31 : Int32).toBitVec).toNat < 32
    rw [BitVec.toNat_and]
    exact Nat.lt_of_le_of_lt Nat.and_le_right (by decide)
  · apply Int32.toBitVec_inj.mp
    show _ = BitVec.ofNat 32 _
    simp
theorem lg_cmp_self (x : Int64) : lg_cmp x x = 0 := by
  unfold lg_cmp
  rw [if_neg (by rw [gt_iff_lt, Int64.lt_iff_toInt_lt]; omega), if_pos rfl]
section ZROWS
variable {G : zM} {j pc n : Nat} {st : List Value} {σ σ' : gS}
theorem z_al1 (ho : zOk G)  (hd : decode code pc = .ok (.aload_n 1, 1)) (hn : pc + 1 = n)  (k : zAt G j n (.ref (zad G 0) :: st) σ) : zAt G j pc (st) σ := by
  subst hn; obtain ⟨⟨p, l, e, s, m, below, meth, c0⟩, X, b, L, xs⟩ := G; obtain ⟨⟨hx, hb, hr, hml, hown, hts, hX, hbl, hlk, hgv⟩, hK, hj0, hz, hA, hL⟩ := ho; exact fun H locs ls hl hP hS => lv_aload_n hx hb hd rfl (lv_at hl 1 rfl) (k H locs ls hl hP hS)
theorem z_al2 (ho : zOk G)  (hd : decode code pc = .ok (.aload_n 2, 1)) (hn : pc + 1 = n)  (k : zAt G j n (.ref (zad G 82) :: st) σ) : zAt G j pc (st) σ := by
  subst hn; obtain ⟨⟨p, l, e, s, m, below, meth, c0⟩, X, b, L, xs⟩ := G; obtain ⟨⟨hx, hb, hr, hml, hown, hts, hX, hbl, hlk, hgv⟩, hK, hj0, hz, hA, hL⟩ := ho; exact fun H locs ls hl hP hS => lv_aload_n hx hb hd rfl (lv_at hl 2 rfl) (k H locs ls hl hP hS)
theorem z_bip (ho : zOk G) {z : Int} {v : Int32} (hd : decode code pc = .ok (.bipush z, 2)) (hn : pc + 2 = n) (hv : (Int8.ofInt z).toInt32 = v) (k : zAt G j n (.int v :: st) σ) : zAt G j pc (st) σ := by
  subst hn; obtain ⟨⟨p, l, e, s, m, below, meth, c0⟩, X, b, L, xs⟩ := G; obtain ⟨⟨hx, hb, hr, hml, hown, hts, hX, hbl, hlk, hgv⟩, hK, hj0, hz, hA, hL⟩ := ho; exact fun H locs ls hl hP hS => lv_bipush hx hb hd hv (k H locs ls hl hP hS)
theorem z_isub (ho : zOk G) {x y : Int32} (hd : decode code pc = .ok (.isub, 1)) (hn : pc + 1 = n)  (k : zAt G j n (.int (x - y) :: st) σ) : zAt G j pc (.int y :: .int x :: st) σ := by
  subst hn; obtain ⟨⟨p, l, e, s, m, below, meth, c0⟩, X, b, L, xs⟩ := G; obtain ⟨⟨hx, hb, hr, hml, hown, hts, hX, hbl, hlk, hgv⟩, hK, hj0, hz, hA, hL⟩ := ho; exact fun H locs ls hl hP hS => lv_isub hx hb hd (k H locs ls hl hP hS)
theorem z_iand (ho : zOk G) {x y : Int32} (hd : decode code pc = .ok (.iand, 1)) (hn : pc + 1 = n)  (k : zAt G j n (.int (x &&& y) :: st) σ) : zAt G j pc (.int y :: .int x :: st) σ := by
  subst hn; obtain ⟨⟨p, l, e, s, m, below, meth, c0⟩, X, b, L, xs⟩ := G; obtain ⟨⟨hx, hb, hr, hml, hown, hts, hX, hbl, hlk, hgv⟩, hK, hj0, hz, hA, hL⟩ := ho; exact fun H locs ls hl hP hS => lv_iand hx hb hd (k H locs ls hl hP hS)
theorem z_i2l (ho : zOk G) {x : Int32} (hd : decode code pc = .ok (.i2l, 1)) (hn : pc + 1 = n)  (k : zAt G j n (.long x.toInt64 :: st) σ) : zAt G j pc (.int x :: st) σ := by
  subst hn; obtain ⟨⟨p, l, e, s, m, below, meth, c0⟩, X, b, L, xs⟩ := G; obtain ⟨⟨hx, hb, hr, hml, hown, hts, hX, hbl, hlk, hgv⟩, hK, hj0, hz, hA, hL⟩ := ho; exact fun H locs ls hl hP hS => lv_i2l hx hb hd rfl (k H locs ls hl hP hS)
theorem z_lshl (ho : zOk G) {x : Int64} {y : Int32} (hd : decode code pc = .ok (.lshl, 1)) (hn : pc + 1 = n)  (k : zAt G j n (.long (x <<< (y.toInt64 &&& 63)) :: st) σ) : zAt G j pc (.int y :: .long x :: st) σ := by
  subst hn; obtain ⟨⟨p, l, e, s, m, below, meth, c0⟩, X, b, L, xs⟩ := G; obtain ⟨⟨hx, hb, hr, hml, hown, hts, hX, hbl, hlk, hgv⟩, hK, hj0, hz, hA, hL⟩ := ho; exact fun H locs ls hl hP hS => lv_lshl hx hb hd rfl (k H locs ls hl hP hS)
theorem z_land (ho : zOk G) {x y : Int64} (hd : decode code pc = .ok (.land, 1)) (hn : pc + 1 = n)  (k : zAt G j n (.long (x &&& y) :: st) σ) : zAt G j pc (.long y :: .long x :: st) σ := by
  subst hn; obtain ⟨⟨p, l, e, s, m, below, meth, c0⟩, X, b, L, xs⟩ := G; obtain ⟨⟨hx, hb, hr, hml, hown, hts, hX, hbl, hlk, hgv⟩, hK, hj0, hz, hA, hL⟩ := ho; exact fun H locs ls hl hP hS => lv_land hx hb hd (k H locs ls hl hP hS)
theorem z_lor (ho : zOk G) {x y : Int64} (hd : decode code pc = .ok (.lor, 1)) (hn : pc + 1 = n)  (k : zAt G j n (.long (x ||| y) :: st) σ) : zAt G j pc (.long y :: .long x :: st) σ := by
  subst hn; obtain ⟨⟨p, l, e, s, m, below, meth, c0⟩, X, b, L, xs⟩ := G; obtain ⟨⟨hx, hb, hr, hml, hown, hts, hX, hbl, hlk, hgv⟩, hK, hj0, hz, hA, hL⟩ := ho; exact fun H locs ls hl hP hS => lv_lor hx hb hd (k H locs ls hl hP hS)
theorem z_ldc2 (ho : zOk G) {i : Nat} {v : Int64} (hd : decode code pc = .ok (.ldc2_w i, 3)) (hn : pc + 3 = n) (hv : Cond.constantLong "WaxClothLaw" i v ∈ WS) (k : zAt G j n (.long v :: st) σ) : zAt G j pc (st) σ := by
  subst hn; obtain ⟨⟨p, l, e, s, m, below, meth, c0⟩, X, b, L, xs⟩ := G; obtain ⟨⟨hx, hb, hr, hml, hown, hts, hX, hbl, hlk, hgv⟩, hK, hj0, hz, hA, hL⟩ := ho; exact fun H locs ls hl hP hS => lv_ldc2 hx hb hown (hts _ (WS_good _ hv).1) hd (k H locs ls hl hP hS)
theorem z_arg (ho : zOk G) (i : Nat) {z : Int} (hv : Int32.ofInt z = nI i) (hj : j + i < zL G) (d1 : decode code pc = .ok (.aload_n 0, 1)) (d2 : decode code (pc + 1) = .ok (.iload_n 3, 1)) (d3 : decode code (pc + 2) = .ok (.iconst z, 1)) (d4 : decode code (pc + 3) = .ok (.iadd, 1)) (d5 : decode code (pc + 4) = .ok (.iaload, 1)) (hn : pc + 5 = n) (k : zAt G j n (.int (zx G (j + i)) :: st) σ) : zAt G j pc st σ := by
  subst hn; obtain ⟨⟨p, l, e, s, m, below, meth, c0⟩, X, b, L, xs⟩ := G; obtain ⟨⟨hx, hb, hr, hml, hown, hts, hX, hbl, hlk, hgv⟩, hK, hj0, hz, hA, hL⟩ := ho
  have hj : j + i < L := hj
  intro H locs ls hl hP hS
  refine lv_aload_n hx hb d1 rfl (lv_at hl 0 rfl) ?_
  refine lv_iload_n hx hb d2 rfl (lv_at hl 3 rfl) ?_
  refine lv_iconst (v := nI i) hx hb d3 hv ?_
  refine lv_iadd hx hb d4 ?_
  rw [nI_add]
  refine va_sld hx hb hX hbl (Nat.not_le.mpr hbl) hS (vp_in_nI hj (by omega)) d5 ?_
  rw [nI_clamp (by omega)]
  exact k H locs ls hl hP hS
theorem z_arg6 (ho : zOk G) (i : Nat) {z : Int} (hv : (Int8.ofInt z).toInt32 = nI i) (hj : j + i < zL G) (d1 : decode code pc = .ok (.aload_n 0, 1)) (d2 : decode code (pc + 1) = .ok (.iload_n 3, 1)) (d3 : decode code (pc + 2) = .ok (.bipush z, 2)) (d4 : decode code (pc + 4) = .ok (.iadd, 1)) (d5 : decode code (pc + 5) = .ok (.iaload, 1)) (hn : pc + 6 = n) (k : zAt G j n (.int (zx G (j + i)) :: st) σ) : zAt G j pc st σ := by
  subst hn; obtain ⟨⟨p, l, e, s, m, below, meth, c0⟩, X, b, L, xs⟩ := G; obtain ⟨⟨hx, hb, hr, hml, hown, hts, hX, hbl, hlk, hgv⟩, hK, hj0, hz, hA, hL⟩ := ho
  have hj : j + i < L := hj
  intro H locs ls hl hP hS
  refine lv_aload_n hx hb d1 rfl (lv_at hl 0 rfl) ?_
  refine lv_iload_n hx hb d2 rfl (lv_at hl 3 rfl) ?_
  refine lv_bipush (v := nI i) hx hb d3 hv ?_
  refine lv_iadd hx hb d4 ?_
  rw [nI_add]
  refine va_sld hx hb hX hbl (Nat.not_le.mpr hbl) hS (vp_in_nI hj (by omega)) d5 ?_
  rw [nI_clamp (by omega)]
  exact k H locs ls hl hP hS
theorem z_arg0 (ho : zOk G) (hj : j < zL G) (d1 : decode code pc = .ok (.aload_n 0, 1)) (d2 : decode code (pc + 1) = .ok (.iload_n 3, 1)) (d5 : decode code (pc + 2) = .ok (.iaload, 1)) (hn : pc + 3 = n) (k : zAt G j n (.int (zx G j) :: st) σ) : zAt G j pc st σ := by
  subst hn; obtain ⟨⟨p, l, e, s, m, below, meth, c0⟩, X, b, L, xs⟩ := G; obtain ⟨⟨hx, hb, hr, hml, hown, hts, hX, hbl, hlk, hgv⟩, hK, hj0, hz, hA, hL⟩ := ho
  have hj : j < L := hj
  intro H locs ls hl hP hS
  refine lv_aload_n hx hb d1 rfl (lv_at hl 0 rfl) ?_
  refine lv_iload_n hx hb d2 rfl (lv_at hl 3 rfl) ?_
  refine va_sld hx hb hX hbl (Nat.not_le.mpr hbl) hS (vp_in_nI hj (by omega)) d5 ?_
  rw [nI_clamp (by omega)]
  exact k H locs ls hl hP hS
theorem z_len (ho : zOk G) (d1 : decode code pc = .ok (.iload_n 3, 1)) (d2 : decode code (pc + 1) = .ok (.aload_n 0, 1)) (d3 : decode code (pc + 2) = .ok (.arraylength, 1)) (hn : pc + 3 = n) (k : zAt G j n (.int (nI (zL G)) :: .int (nI j) :: st) σ) : zAt G j pc st σ := by
  subst hn; obtain ⟨⟨p, l, e, s, m, below, meth, c0⟩, X, b, L, xs⟩ := G; obtain ⟨⟨hx, hb, hr, hml, hown, hts, hX, hbl, hlk, hgv⟩, hK, hj0, hz, hA, hL⟩ := ho
  intro H locs ls hl hP hS
  refine lv_iload_n hx hb d1 rfl (lv_at hl 3 rfl) ?_
  refine lv_aload_n hx hb d2 rfl (lv_at hl 0 rfl) ?_
  refine va_slen hx hb hX hbl (Nat.not_le.mpr hbl) hS d3 ?_
  exact k H locs ls hl hP hS
theorem z_gt (ho : zOk G) {x y : Int32} {off : Int} {tgt : Nat} (hd : decode code pc = .ok (.if_icmp .gt off, 3)) (ht : (pc : Int) + off = (tgt : Int)) (hn : pc + 3 = n) (kt : y < x → zAt G j tgt st σ) (kf : ¬ y < x → zAt G j n st σ) : zAt G j pc (.int y :: .int x :: st) σ := by
  subst hn; obtain ⟨⟨p, l, e, s, m, below, meth, c0⟩, X, b, L, xs⟩ := G; obtain ⟨⟨hx, hb, hr, hml, hown, hts, hX, hbl, hlk, hgv⟩, hK, hj0, hz, hA, hL⟩ := ho; exact fun H locs ls hl hP hS => lv_icmp_gt hx hb hd ht (fun q => kt q H locs ls hl hP hS) (fun q => kf q H locs ls hl hP hS)
theorem z_eq (ho : zOk G) {x : Int32} {off : Int} {tgt : Nat} (hd : decode code pc = .ok (.if_icmp .eq off, 3)) (ht : (pc : Int) + off = (tgt : Int)) (k : zAt G j tgt st σ) : zAt G j pc (.int x :: .int x :: st) σ := by
  obtain ⟨⟨p, l, e, s, m, below, meth, c0⟩, X, b, L, xs⟩ := G; obtain ⟨⟨hx, hb, hr, hml, hown, hts, hX, hbl, hlk, hgv⟩, hK, hj0, hz, hA, hL⟩ := ho; exact fun H locs ls hl hP hS => lv_icmp_eq hx hb hd ht (fun _ => k H locs ls hl hP hS) (fun q => absurd rfl q)
theorem z_leq (ho : zOk G) {x : Int64} {off : Int} {tgt : Nat} (hd : decode code pc = .ok (.lcmp, 1)) (hd2 : decode code (pc + 1) = .ok (.ifCond .eq off, 3)) (ht : ((pc + 1 : Nat) : Int) + off = (tgt : Int)) (k : zAt G j tgt st σ) : zAt G j pc (.long x :: .long x :: st) σ := by
  obtain ⟨⟨p, l, e, s, m, below, meth, c0⟩, X, b, L, xs⟩ := G; obtain ⟨⟨hx, hb, hr, hml, hown, hts, hX, hbl, hlk, hgv⟩, hK, hj0, hz, hA, hL⟩ := ho
  intro H locs ls hl hP hS
  refine W.lcmp hx hb hd ?_
  exact lv_if_eq hx hb hd2 ht (fun _ => k H locs ls hl hP hS) (fun q => absurd (lg_cmp_self x) q)
theorem z_tin (ho : zOk G) (v : Int32) {dflt lo hi : Int} {offs : Array Int} {len : Nat} {off : Int} {tgt : Nat} (hd : decode code pc = .ok (.tableswitch dflt lo hi offs, len)) (h1 : ¬ v.toInt < lo) (h2 : ¬ hi < v.toInt) (hof : offs[(v.toInt - lo).toNat]? = some off) (ht : (pc : Int) + off = (tgt : Int)) (k : zAt G j tgt st σ) : zAt G j pc (.int v :: st) σ := by
  obtain ⟨⟨p, l, e, s, m, below, meth, c0⟩, X, b, L, xs⟩ := G; obtain ⟨⟨hx, hb, hr, hml, hown, hts, hX, hbl, hlk, hgv⟩, hK, hj0, hz, hA, hL⟩ := ho; exact fun H locs ls hl hP hS => lv_tableIn hx hb hd h1 h2 hof ht (k H locs ls hl hP hS)
theorem z_tout (ho : zOk G) (v : Int32) {dflt lo hi : Int} {offs : Array Int} {len : Nat} {tgt : Nat} (hd : decode code pc = .ok (.tableswitch dflt lo hi offs, len)) (h : v.toInt < lo ∨ hi < v.toInt) (ht : (pc : Int) + dflt = (tgt : Int)) (k : zAt G j tgt st σ) : zAt G j pc (.int v :: st) σ := by
  obtain ⟨⟨p, l, e, s, m, below, meth, c0⟩, X, b, L, xs⟩ := G; obtain ⟨⟨hx, hb, hr, hml, hown, hts, hX, hbl, hlk, hgv⟩, hK, hj0, hz, hA, hL⟩ := ho; exact fun H locs ls hl hP hS => lv_tableOut hx hb hd h ht (k H locs ls hl hP hS)
theorem z_next (ho : zOk G) {off : Int} (d1 : decode code pc = .ok (.iinc 3 7, 3)) (d2 : decode code (pc + 3) = .ok (.goto off, 3)) {tgt : Nat} (ht : ((pc + 3 : Nat) : Int) + off = (tgt : Int)) (k : zAt G (j + 7) tgt st σ) : zAt G j pc st σ := by
  obtain ⟨⟨p, l, e, s, m, below, meth, c0⟩, X, b, L, xs⟩ := G; obtain ⟨⟨hx, hb, hr, hml, hown, hts, hX, hbl, hlk, hgv⟩, hK, hj0, hz, hA, hL⟩ := ho
  intro H locs ls hl hP hS
  refine lv_iinc (k := 3) (v := nI (j + 7)) hx hb d1 hl rfl (by rw [show Int32.ofInt 7 = nI 7 by decide]; exact nI_add j 7) (by decide) rfl (fun ls' hl' => ?_)
  refine lv_goto hx hb d2 ht ?_
  exact k H locs ls' (lv_sub hl' [1, 2, 3, 0] rfl) hP hS
theorem z_end (ho : zOk G) (d1 : decode code pc = .ok (.iconst 1, 1)) (d2 : decode code (pc + 1) = .ok (.ireturn, 1)) : zAt G j pc [] σ := by
  obtain ⟨⟨p, l, e, s, m, below, meth, c0⟩, X, b, L, xs⟩ := G; obtain ⟨⟨hx, hb, hr, hml, hown, hts, hX, hbl, hlk, hgv⟩, hK, hj0, hz, hA, hL⟩ := ho
  intro H locs ls hl hP hS
  refine lv_iconst (v := 1) hx hb d1 (by decide) ?_
  refine va_forget (fun q hq => hS.2.2 q hq) ?_
  exact lw_ret hx hb hr hlk d2
theorem z_call (ho : zOk G) {y : MethodName} {bytes : ByteArray} {maxL na idx ci c d' : Nat} {ret : Option FieldType} {as : List Value} {v : Option Value} {st0 : List Value} (hy : gV y bytes maxL ret na ci) (hl : Cond.methodLink "WaxClothLaw" idx y ∈ WS) (hO : isO c ci) (hM : gCt (zl G) (zX G) y (.code y bytes maxL ret) d' (.ref (zad G c) :: as) σ v σ') (hna : as.length = na) (hs : st0 = as.reverse ++ .ref (zad G c) :: st) (hdd : d' ≤ 1000) (hst : (st.map fun v => v.category).sum ≤ 8) (hd : decode code pc = .ok (.invokevirtual idx, 3)) (hn : pc + 3 = n) (kk : zAt G j n (v.toList ++ st) σ') : zAt G j pc st0 σ := by
  subst hn; obtain ⟨⟨p, l, e, s, m, below, meth, c0⟩, X, b, L, xs⟩ := G; obtain ⟨⟨hx, hb, hr, hml, hown, hts, hX, hbl, hlk, hgv⟩, hK, hj0, hz, hA, hL⟩ := ho
  obtain ⟨⟨T, N, hcl⟩, hcode, hins, hsel, hini, hdsc, hmx⟩ := hy
  have htw : ∀ w ∈ WS, w.before #[Value.ref b] s = true := fun w hw => hts w (WS_good w hw).1
  intro H locs ls hl0 hP hS
  have he := gw_get (X := X) (σ := σ) (isO_lt hO)
  rw [gE_O hO] at he
  have hgA : ∀ q, gA X q → s.heap.size ≤ q := fun q h => by obtain ⟨k, h1, h2⟩ := h; rw [h2]; exact hA k h1
  have hS' : ∀ q : Nat, q < s.heap.size → ¬ gA X q → H[q]? = s.heap[q]? := fun q h1 _ => hS.2.1 q h1 (Nat.not_le.mpr h1)
  have hin : ∀ U : State, U.heap = H → s.WarmedH U.vm → va_Pc (.ref (X.2.2.1 c) :: as) (gH X σ) (Value.ref (X.2.2.1 c) :: as).toArray U := fun U hU hW =>
    ⟨rfl, by rw [hU]; exact hP, va_K.moved hW.alike hK, hj0, by rw [hU]; exact (va_Z.moved hW.alike hz.1).kept hS', by rw [hU]; exact (va_T.moved hW.alike hz.2).kept hS'⟩
  have hrun := va_runV (g := F0 m pc ls st0) (rest := st) (As := as) (cells := 600000) (slots := 7302249) (locs := locs) (e := e) (below := below) (meth := meth) (nL := 4) (own := "WaxClothLaw") ⟨hx, hb, hml, hown, htw⟩ hM (C := y.cls) (index := idx) (n := na) (R := room_1) (b := X.2.2.1 c) (H := H) ⟨callB_of na htw (WS_cons hcode) rfl rfl rfl (htw _ hini) (htw _ hl) hdsc ⟨by show d' + 1 ≤ 2048; omega, by show 8 + (maxL + 11) + 64 * d' ≤ 84000; omega⟩, htw _ hins, htw _ hsel⟩ ⟨gBlind, va_recv hK hP hcl he, hin⟩ rfl hna hl0.1 hs (lv_room hst) hd ⟨Nat.le_refl _, Nat.le_refl _⟩
  intro T0 hT0 X1
  obtain ⟨v1, st₀, t, T', L1, h0, X', hLl, e1, e2, ⟨⟨hv, hg⟩, hsz, hkp⟩, stp⟩ := hrun T0 hT0 X1
  cases hv
  rw [h0] at hsz hkp
  obtain ⟨t2, a1, b1⟩ := kk T'.heap (locs ++ L1) ls hl0 (by rw [e1]; exact hg.1) ⟨Nat.le_trans hS.1 (by rw [e1]; exact hsz), fun q h1 h2 => by rw [e1, hkp q (Nat.lt_of_lt_of_le h1 hS.1) (fun z => h2 (hgA q z))]; exact hS.2.1 q h1 h2, fun q hq => by
      rcases List.mem_append.mp hq with h | h
      · exact hS.2.2 q h
      · exact hgA _ (hLl q h)⟩ T' rfl X'
  exact ⟨t2, stp t2 a1, b1⟩
theorem z_calli (ho : zOk G) {y : MethodName} {bytes : ByteArray} {maxL na idx ci c d' : Nat} {ret : Option FieldType} {as : List Value} {r : Int32} {st0 : List Value} (hy : gV y bytes maxL ret na ci) (hl : Cond.methodLink "WaxClothLaw" idx y ∈ WS) (hO : isO c ci) (hM : gCt (zl G) (zX G) y (.code y bytes maxL ret) d' (.ref (zad G c) :: as) σ (some (.int r)) σ') (hna : as.length = na) (hs : st0 = as.reverse ++ .ref (zad G c) :: st) (hdd : d' ≤ 1000) (hst : (st.map fun v => v.category).sum ≤ 8) (hd : decode code pc = .ok (.invokevirtual idx, 3)) (hn : pc + 3 = n) (kk : zAt G j n (.int r :: st) σ') : zAt G j pc st0 σ := z_call ho hy hl hO hM hna hs hdd hst hd hn kk
theorem z_calll (ho : zOk G) {y : MethodName} {bytes : ByteArray} {maxL na idx ci c d' : Nat} {ret : Option FieldType} {as : List Value} {r : Int64} {st0 : List Value} (hy : gV y bytes maxL ret na ci) (hl : Cond.methodLink "WaxClothLaw" idx y ∈ WS) (hO : isO c ci) (hM : gCt (zl G) (zX G) y (.code y bytes maxL ret) d' (.ref (zad G c) :: as) σ (some (.long r)) σ') (hna : as.length = na) (hs : st0 = as.reverse ++ .ref (zad G c) :: st) (hdd : d' ≤ 1000) (hst : (st.map fun v => v.category).sum ≤ 8) (hd : decode code pc = .ok (.invokevirtual idx, 3)) (hn : pc + 3 = n) (kk : zAt G j n (.long r :: st) σ') : zAt G j pc st0 σ := z_call ho hy hl hO hM hna hs hdd hst hd hn kk
end ZROWS
