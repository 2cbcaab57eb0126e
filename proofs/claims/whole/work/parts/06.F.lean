section CALLS3
variable {G : gM} {own : String} {cc : ByteArray} {d : Nat} {rt : Option FieldType} {nL : Nat} {pc n : Nat} {L L' : List (Nat × Value)} {st : List Value} {σ σ' : gS}
theorem rI {r r0 : Int32} (hr : gv0 G = some (.int r0)) (h : r = r0) : gv0 G = some (.int r) := by rw [h]; exact hr
theorem rL {r r0 : Int64} (hr : gv0 G = some (.long r0)) (h : r = r0) : gv0 G = some (.long r) := by rw [h]; exact hr
theorem rS {τ τ0 : gS} (hs : gs0 G = τ0) (h : τ = τ0) : gs0 G = τ := by rw [h]; exact hs
theorem isI_ln {c N : Nat} (h : isI c N) : isI c (ln c) := ⟨h.1, rfl⟩
theorem a_callVi (ho : gOk G own cc d rt nL) {y : MethodName} {bytes : ByteArray} {maxL na idx ci c d' : Nat} {ret : Option FieldType} {as : List Value} {r : Int32} {st0 : List Value} (hy : gV y bytes maxL ret na ci) (hl : Cond.methodLink own idx y ∈ WS) (hO : isO c ci) (hM : gCt (gl G) (gXX G) y (.code y bytes maxL ret) d' (.ref (gad G c) :: as) σ (some (.int r)) σ') (hna : as.length = na) (hs : st0 = as.reverse ++ .ref (gad G c) :: st) (hdd : d' + 1 ≤ d) (hst : (st.map fun v => v.category).sum ≤ 8) (hd : decode cc pc = .ok (.invokevirtual idx, 3)) (hn : pc + 3 = n) (kk : gAt G n L (.int r :: st) σ') : gAt G pc L st0 σ := a_callV ho hy hl hO hM hna hs hdd hst hd hn kk
theorem a_callVl (ho : gOk G own cc d rt nL) {y : MethodName} {bytes : ByteArray} {maxL na idx ci c d' : Nat} {ret : Option FieldType} {as : List Value} {r : Int64} {st0 : List Value} (hy : gV y bytes maxL ret na ci) (hl : Cond.methodLink own idx y ∈ WS) (hO : isO c ci) (hM : gCt (gl G) (gXX G) y (.code y bytes maxL ret) d' (.ref (gad G c) :: as) σ (some (.long r)) σ') (hna : as.length = na) (hs : st0 = as.reverse ++ .ref (gad G c) :: st) (hdd : d' + 1 ≤ d) (hst : (st.map fun v => v.category).sum ≤ 8) (hd : decode cc pc = .ok (.invokevirtual idx, 3)) (hn : pc + 3 = n) (kk : gAt G n L (.long r :: st) σ') : gAt G pc L st0 σ := a_callV ho hy hl hO hM hna hs hdd hst hd hn kk
theorem a_callVv (ho : gOk G own cc d rt nL) {y : MethodName} {bytes : ByteArray} {maxL na idx ci c d' : Nat} {ret : Option FieldType} {as : List Value} {st0 : List Value} (hy : gV y bytes maxL ret na ci) (hl : Cond.methodLink own idx y ∈ WS) (hO : isO c ci) (hM : gCt (gl G) (gXX G) y (.code y bytes maxL ret) d' (.ref (gad G c) :: as) σ none σ') (hna : as.length = na) (hs : st0 = as.reverse ++ .ref (gad G c) :: st) (hdd : d' + 1 ≤ d) (hst : (st.map fun v => v.category).sum ≤ 8) (hd : decode cc pc = .ok (.invokevirtual idx, 3)) (hn : pc + 3 = n) (kk : gAt G n L st σ') : gAt G pc L st0 σ := a_callV ho hy hl hO hM hna hs hdd hst hd hn kk
theorem a_callSi (ho : gOk G own cc d rt nL) {y : MethodName} {bytes : ByteArray} {maxL na idx d' : Nat} {ret : Option FieldType} {as : List Value} {r : Int32} {st0 : List Value} (hy : gT y bytes maxL ret na) (hl : Cond.methodLink own idx y ∈ WS) (hM : gCt (gl G) (gXX G) y (.code y bytes maxL ret) d' as σ (some (.int r)) σ') (hna : as.length = na) (hs : st0 = as.reverse ++ st) (hdd : d' + 1 ≤ d) (hst : (st.map fun v => v.category).sum ≤ 8) (hd : decode cc pc = .ok (.invokestatic idx, 3)) (hn : pc + 3 = n) (kk : gAt G n L (.int r :: st) σ') : gAt G pc L st0 σ := a_callS ho hy hl hM hna hs hdd hst hd hn kk
theorem a_callSl (ho : gOk G own cc d rt nL) {y : MethodName} {bytes : ByteArray} {maxL na idx d' : Nat} {ret : Option FieldType} {as : List Value} {r : Int64} {st0 : List Value} (hy : gT y bytes maxL ret na) (hl : Cond.methodLink own idx y ∈ WS) (hM : gCt (gl G) (gXX G) y (.code y bytes maxL ret) d' as σ (some (.long r)) σ') (hna : as.length = na) (hs : st0 = as.reverse ++ st) (hdd : d' + 1 ≤ d) (hst : (st.map fun v => v.category).sum ≤ 8) (hd : decode cc pc = .ok (.invokestatic idx, 3)) (hn : pc + 3 = n) (kk : gAt G n L (.long r :: st) σ') : gAt G pc L st0 σ := a_callS ho hy hl hM hna hs hdd hst hd hn kk
theorem a_callSv (ho : gOk G own cc d rt nL) {y : MethodName} {bytes : ByteArray} {maxL na idx d' : Nat} {ret : Option FieldType} {as : List Value} {st0 : List Value} (hy : gT y bytes maxL ret na) (hl : Cond.methodLink own idx y ∈ WS) (hM : gCt (gl G) (gXX G) y (.code y bytes maxL ret) d' as σ none σ') (hna : as.length = na) (hs : st0 = as.reverse ++ st) (hdd : d' + 1 ≤ d) (hst : (st.map fun v => v.category).sum ≤ 8) (hd : decode cc pc = .ok (.invokestatic idx, 3)) (hn : pc + 3 = n) (kk : gAt G n L st σ') : gAt G pc L st0 σ := a_callS ho hy hl hM hna hs hdd hst hd hn kk
end CALLS3
def F_X0_note_78 (σ : gS) : Option gS :=
    bd (sI σ 73 0 ((σ.1 73 0) + 1)) (fun σ85 => some σ85)
def F_X0_note_51 (x1 : Int32) (x2 : Int32) (x3 : Int32) (σ : gS) : Option gS :=
    if x1 = x3 then (if (σ.1 73 0) = 0 then (ck (cpR 0 0 x2 5 5) (bd (cI σ 75 0 74 0 x2) (fun σ75 => F_X0_note_78 σ75))) else (F_X0_note_78 σ)) else (some σ)
def F_X0_note_0 (x1 : Int32) (x2 : Int32) (x3 : Int32) (σ : gS) : Option gS :=
    bd ((1 : Int64) <<< (Int32.toInt64 (x1 &&& 63) &&& (63 : Int64))) (fun x6 => bd (x1 >>> ((6 : Int32) &&& (31 : Int32))) (fun x12 => ck (inR x12 64) (if (lg_cmp ((σ.2 76 (Int32.toNatClampNeg x12)) &&& x6) 0) = 0 then (ck (inR x12 64) (ck (inR x12 64) (bd (sJ σ 76 (Int32.toNatClampNeg x12) ((σ.2 76 (Int32.toNatClampNeg x12)) ||| x6)) (fun σ40 => bd (sI σ40 73 1 ((σ40.1 73 1) + 1)) (fun σ48 => F_X0_note_51 x1 x2 x3 σ48))))) else (F_X0_note_51 x1 x2 x3 σ))))
def F_X2_amountInDye_0 (x1 : Int32) (x2 : Int32) (σ : gS) : Option Int32 :=
    ck (inR ((x1 * 3) + x2) 12) (some (σ.1 14 (Int32.toNatClampNeg ((x1 * 3) + x2))))
def F_X3_taken_78 : Option Int32 :=
    some 0
def F_X3_taken_0 (x0 : Int32) (x1 : Int32) (x2 : Int32) : Option Int32 :=
    if x0 = 2 then (if 2 ≤ x1 then (some 2) else (some x1)) else (if x0 = 3 then (if x1 = 0 then (some 0) else (some (x1 + 1))) else (if x0 = 4 then (if x1 = 0 then (some 0) else (some ((x1 / 2) + 1))) else (if x0 = 5 then (if x1 = 0 then F_X3_taken_78 else (if x2 < 4 then (some ((x1 / 2) + 1)) else F_X3_taken_78)) else (some x1))))
def F_X9_amountOf_0 (x0 : Int32) (x1 : Int32) : Int32 :=
    (x0 >>> ((x1 * 4) &&& (31 : Int32))) &&& 15
def F_X2_gain_0 (x1 : Int32) (x2 : Int32) (x3 : Int32) (x4 : Int32) (σ : gS) : Option Int32 :=
    bd (F_X9_amountOf_0 x2 x4) (fun x6 => ck (inR x1 8) (ob (F_X2_amountInDye_0 x3 x4 σ) (fun r18 => ob (F_X3_taken_0 (σ.1 11 (Int32.toNatClampNeg x1)) r18 x6) (fun r23 => some (mn r23 (9 - x6))))))
def F_X9_withMore_0 (x0 : Int32) (x1 : Int32) (x2 : Int32) : Int32 :=
    x0 + (x2 <<< ((x1 * 4) &&& (31 : Int32)))
def F_X2_dyed_6 : Nat → Int32 → Int32 → Int32 → Int32 → Int32 → gS → Option Int32
  | 0, _, _, _, _, _, _ => none
  | n + 1, x1, x2, x3, x4, x5, σ =>
    if 3 ≤ x5 then (some x4) else (ob (F_X2_gain_0 x1 x2 x3 x5 σ) (fun r22 => bd (F_X9_withMore_0 x4 x5 r22) (fun x28 => bd (x5 + 1) (fun x30 => F_X2_dyed_6 n x1 x2 x3 x28 x30 σ))))
def F_X2_dyed_0 (x1 : Int32) (x2 : Int32) (x3 : Int32) (σ : gS) : Option Int32 :=
    F_X2_dyed_6 fu x1 x2 x3 x2 0 σ
def F_X0_bathe_26 (rc : Int32 → Int32 → Int32 → Int32 → Int32 → gS → Option gS) : Nat → Int32 → Int32 → Int32 → Int32 → Int32 → Int32 → gS → Option gS
  | 0, _, _, _, _, _, _, _ => none
  | n + 1, x2, x3, x4, x5, x6, x7, σ =>
    if (σ.1 10 1) ≤ x7 then (some σ) else (ck (inR x4 5) (bd (sI σ 75 (Int32.toNatClampNeg x4) x7) (fun σ43 => ob (F_X2_dyed_0 x2 x3 x7 σ43) (fun r52 => ob (rc x2 r52 (x4 + 1) x5 x6 σ43) (fun σ63 => bd (x7 + 1) (fun x66 => F_X0_bathe_26 rc n x2 x3 x4 x5 x6 x66 σ63))))))
def F_X0_bathe_13 (rc : Int32 → Int32 → Int32 → Int32 → Int32 → gS → Option gS) (x3 : Int32) (x5 : Int32) (x6 : Int32) (σ : gS) : Option gS :=
    ob (F_X0_note_0 x3 x5 x6 σ) (fun σ19 => some σ19)
def F_X0_bathe_0 (rc : Int32 → Int32 → Int32 → Int32 → Int32 → gS → Option gS) (x2 : Int32) (x3 : Int32) (x4 : Int32) (x5 : Int32) (x6 : Int32) (σ : gS) : Option gS :=
    if x5 ≤ x4 then (F_X0_bathe_13 rc x3 x5 x6 σ) else (if x4 < 5 then (F_X0_bathe_26 rc fu x2 x3 x4 x5 x6 0 σ) else (F_X0_bathe_13 rc x3 x5 x6 σ))
def F_X0_bathe : Nat → Int32 → Int32 → Int32 → Int32 → Int32 → gS → Option gS
  | 0, _, _, _, _, _, _ => none
  | n + 1, a2, a3, a4, a5, a6, σ => F_X0_bathe_0 (F_X0_bathe n) a2 a3 a4 a5 a6 σ
def F_X0_walk_13 : Nat → Int32 → Int32 → Int32 → Int32 → gS → Option gS
  | 0, _, _, _, _, _ => none
  | n + 1, x2, x3, x4, x5, σ =>
    if 64 ≤ x5 then (ob (F_X0_bathe 7 x2 0 0 x3 x4 σ) (fun σ45 => some σ45)) else (ck (inR x5 64) (bd (sJ σ 76 (Int32.toNatClampNeg x5) 0) (fun σ30 => bd (x5 + 1) (fun x31 => F_X0_walk_13 n x2 x3 x4 x31 σ30))))
def F_X0_walk_0 (x2 : Int32) (x3 : Int32) (x4 : Int32) (σ : gS) : Option gS :=
    bd (sI σ 73 0 0) (fun σ2 => bd (sI σ2 73 1 0) (fun σ7 => F_X0_walk_13 fu x2 x3 x4 0 σ7))
def F_X1_greatestCommon_34 (x2 : Int32) : Option Int32 :=
    some (mx x2 1)
def F_X1_greatestCommon_7 : Nat → Int32 → Int32 → Int32 → Option Int32
  | 0, _, _, _ => none
  | n + 1, x2, x3, x4 =>
    if x3 = 0 then (F_X1_greatestCommon_34 x2) else (if 100 ≤ x4 then (F_X1_greatestCommon_34 x2) else (ck (¬ x3 = 0) (bd (x2 - x2 / x3 * x3) (fun x21 => bd (x4 + 1) (fun x28 => F_X1_greatestCommon_7 n x3 x21 x28)))))
def F_X1_greatestCommon_0 (x0 : Int32) (x1 : Int32) : Option Int32 :=
    F_X1_greatestCommon_7 fu x0 x1 0
def F_X1_weigh_30 (g8 : Int32 → Int32 → Int32 → gS → Option gS) (x1 : Int32) (x2 : Int32) (x3 : Int32) (y0 : Int32) (σ : gS) : Option gS :=
    ck (inR x3 9) (ck (inR x3 9) (bd (sI σ 78 (Int32.toNatClampNeg x3) (((σ.1 78 (Int32.toNatClampNeg x3)) * (x2 - x1)) + y0)) (fun σ50 => bd (x3 + (-1)) (fun x51 => g8 x1 x2 x51 σ50))))
def F_X1_weigh_8 : Nat → Int32 → Int32 → Int32 → gS → Option gS
  | 0, _, _, _, _ => none
  | n + 1, x1, x2, x3, σ =>
    if x3 < 0 then (some σ) else (if x3 ≤ 0 then (F_X1_weigh_30 (F_X1_weigh_8 n) x1 x2 x3 0 σ) else (ck (inR (x3 - 1) 9) (F_X1_weigh_30 (F_X1_weigh_8 n) x1 x2 x3 ((σ.1 78 (Int32.toNatClampNeg (x3 - 1))) * x1) σ)))
def F_X1_weigh_0 (x1 : Int32) (x2 : Int32) (σ : gS) : Option gS :=
    bd (9 - 1) (fun x7 => F_X1_weigh_8 fu x1 x2 x7 σ)
def F_X9_hueOf_57 (g26 : Int32 → Int32 → Int32 → Int32 → Option Int32) (x0 : Int32) (x1 : Int32) (x2 : Int32) (x3 : Int32) : Option Int32 :=
    bd (x3 + 1) (fun x57 => g26 x0 x1 x2 x57)
def F_X9_hueOf_26 : Nat → Int32 → Int32 → Int32 → Int32 → Option Int32
  | 0, _, _, _, _ => none
  | n + 1, x0, x1, x2, x3 =>
    if 3 ≤ x3 then (some x2) else (bd (F_X9_amountOf_0 x0 x3) (fun x36 => if x36 ≤ 0 then (F_X9_hueOf_57 (F_X9_hueOf_26 n) x0 x1 x2 x3) else (if (2 * x36) < x1 then (F_X9_hueOf_57 (F_X9_hueOf_26 n) x0 x1 x2 x3) else (bd (x2 ||| ((1 : Int32) <<< (x3 &&& (31 : Int32)))) (fun x56 => F_X9_hueOf_57 (F_X9_hueOf_26 n) x0 x1 x56 x3)))))
def F_X9_hueOf_0 (x0 : Int32) : Option Int32 :=
    bd (mx (F_X9_amountOf_0 x0 0) (mx (F_X9_amountOf_0 x0 1) (F_X9_amountOf_0 x0 2))) (fun x21 => F_X9_hueOf_26 fu x0 x21 0 0)
def F_X2_isRight_0 (x1 : Int32) (x2 : Int32) (σ : gS) : Option Int32 :=
    ob (F_X9_hueOf_0 x2) (fun r1 => ck (inR x1 8) (if r1 = (σ.1 12 (Int32.toNatClampNeg x1)) then (some 1) else (some 0)))
def F_X9_waxIn_0 (x0 : Int32) : Int32 :=
    x0 >>> ((12 : Int32) &&& (31 : Int32))
def F_X1_crack_183 : Nat → Int32 → Int32 → Int32 → gS → Option gS
  | 0, _, _, _, _ => none
  | n + 1, x5, x6, x7, σ =>
    if 9 ≤ x7 then (ob (F_X1_greatestCommon_0 x5 x6) (fun r215 => ck (¬ r215 = 0) (bd (sI σ 77 0 (x6 / r215)) (fun σ226 => ck (¬ r215 = 0) (bd (sI σ226 77 1 (x5 / r215)) (fun σ235 => some σ235)))))) else (ck (inR x7 9) (bd (x6 + (σ.1 78 (Int32.toNatClampNeg x7))) (fun x203 => bd (x7 + 1) (fun x205 => F_X1_crack_183 n x5 x203 x205 σ))))
def F_X1_crack_152 (g40 : Int32 → Int32 → Int32 → Int32 → Int32 → gS → Option gS) (x2 : Int32) (x3 : Int32) (x4 : Int32) (x5 : Int32) (x6 : Int32) (x9 : Int32) (x10 : Int32) (y0 : Int32) (y1 : Int32) (σ : gS) : Option gS :=
    ob (F_X1_weigh_0 (y1 + y0) (x9 + x10) σ) (fun σ158 => bd (x5 * (x9 + x10)) (fun x169 => bd (x6 + 1) (fun x171 => g40 x2 x3 x4 x169 x171 σ158)))
def F_X1_crack_141 (g40 : Int32 → Int32 → Int32 → Int32 → Int32 → gS → Option gS) (x2 : Int32) (x3 : Int32) (x4 : Int32) (x5 : Int32) (x6 : Int32) (x9 : Int32) (x10 : Int32) (x12 : Int32) (y0 : Int32) (σ : gS) : Option gS :=
    if x12 = 0 then (F_X1_crack_152 g40 x2 x3 x4 x5 x6 x9 x10 0 y0 σ) else (F_X1_crack_152 g40 x2 x3 x4 x5 x6 x9 x10 x10 y0 σ)
def F_X1_crack_100 (g40 : Int32 → Int32 → Int32 → Int32 → Int32 → gS → Option gS) (x2 : Int32) (x3 : Int32) (x4 : Int32) (x5 : Int32) (x6 : Int32) (x7 : Int32) (x9 : Int32) (y0 : Int32) (σ : gS) : Option gS :=
    ob (F_X2_dyed_0 x6 x7 x2 σ) (fun r111 => ob (F_X2_isRight_0 x6 r111 σ) (fun r114 => ob (F_X2_isRight_0 x6 x7 σ) (fun r124 => if r114 = 0 then (F_X1_crack_141 g40 x2 x3 x4 x5 x6 x9 y0 r124 0 σ) else (F_X1_crack_141 g40 x2 x3 x4 x5 x6 x9 y0 r124 x9 σ))))
def F_X1_crack_84 (g40 : Int32 → Int32 → Int32 → Int32 → Int32 → gS → Option gS) (x2 : Int32) (x3 : Int32) (x4 : Int32) (x5 : Int32) (x6 : Int32) (x7 : Int32) (x8 : Int32) (y0 : Int32) (σ : gS) : Option gS :=
    if x8 = 0 then (F_X1_crack_100 g40 x2 x3 x4 x5 x6 x7 y0 0 σ) else (F_X1_crack_100 g40 x2 x3 x4 x5 x6 x7 y0 (10 - x4) σ)
def F_X1_crack_71 (g40 : Int32 → Int32 → Int32 → Int32 → Int32 → gS → Option gS) (x2 : Int32) (x3 : Int32) (x4 : Int32) (x5 : Int32) (x6 : Int32) (x7 : Int32) (y0 : Int32) (σ : gS) : Option gS :=
    if y0 = 0 then (F_X1_crack_84 g40 x2 x3 x4 x5 x6 x7 y0 1 σ) else (F_X1_crack_84 g40 x2 x3 x4 x5 x6 x7 y0 x4 σ)
def F_X1_crack_40 : Nat → Int32 → Int32 → Int32 → Int32 → Int32 → gS → Option gS
  | 0, _, _, _, _, _, _ => none
  | n + 1, x2, x3, x4, x5, x6, σ =>
    if (σ.1 10 0) ≤ x6 then (F_X1_crack_183 fu x5 0 x3 σ) else (ck (inR x6 8) (bd (σ.1 13 (Int32.toNatClampNeg x6)) (fun x56 => if (F_X9_waxIn_0 x56) ≤ 0 then (F_X1_crack_71 (F_X1_crack_40 n) x2 x3 x4 x5 x6 x56 0 σ) else (F_X1_crack_71 (F_X1_crack_40 n) x2 x3 x4 x5 x6 x56 1 σ))))
def F_X1_crack_3 : Nat → Int32 → Int32 → Int32 → Int32 → gS → Option gS
  | 0, _, _, _, _, _ => none
  | n + 1, x2, x3, x4, x5, σ =>
    if 9 ≤ x5 then (bd (sI σ 78 0 1) (fun σ33 => F_X1_crack_40 fu x2 x3 x4 1 0 σ33)) else (ck (inR x5 9) (bd (sI σ 78 (Int32.toNatClampNeg x5) 0) (fun σ20 => bd (x5 + 1) (fun x21 => F_X1_crack_3 n x2 x3 x4 x21 σ20))))
def F_X1_crack_0 (x2 : Int32) (x3 : Int32) (x4 : Int32) (σ : gS) : Option gS :=
    F_X1_crack_3 fu x2 x3 x4 0 σ
def F_X3_layersCracked_0 (x0 : Int32) : Int32 :=
    if x0 = 3 then 2 else (if x0 = 4 then 0 else (1))
def F_X9_withWax_0 (x0 : Int32) (x1 : Int32) : Int32 :=
    (x0 &&& 4095) ||| (x1 <<< ((12 : Int32) &&& (31 : Int32)))
def F_X2_cracked_0 (x1 : Int32) (x2 : Int32) (σ : gS) : Option Int32 :=
    ck (inR x1 8) (some (F_X9_withWax_0 x2 (mx 0 ((F_X9_waxIn_0 x2) - (F_X3_layersCracked_0 (σ.1 11 (Int32.toNatClampNeg x1)))))))
def F_X2_rinsed_24 (g4 : Int32 → Int32 → Int32 → Option Int32) (x0 : Int32) (x2 : Int32) (y0 : Int32) (y1 : Int32) (y2 : Int32) : Option Int32 :=
    bd (F_X9_withMore_0 y2 y1 y0) (fun x27 => bd (x2 + 1) (fun x28 => g4 x0 x27 x28))
def F_X2_rinsed_4 : Nat → Int32 → Int32 → Int32 → Option Int32
  | 0, _, _, _ => none
  | n + 1, x0, x1, x2 =>
    if 3 ≤ x2 then (some x1) else (if (F_X9_amountOf_0 x0 x2) ≤ 0 then (F_X2_rinsed_24 (F_X2_rinsed_4 n) x0 x2 0 x2 x1) else (F_X2_rinsed_24 (F_X2_rinsed_4 n) x0 x2 (-1) x2 x1))
def F_X2_rinsed_0 (x0 : Int32) : Option Int32 :=
    F_X2_rinsed_4 fu x0 x0 0
def F_X2_after_57 (x2 : Int32) (y0 : Int32) (σ : gS) : Option Int32 :=
    if y0 = 0 then (some x2) else (some (F_X9_withWax_0 x2 3))
def F_X2_after_0 (x1 : Int32) (x2 : Int32) (x3 : Int32) (σ : gS) : Option Int32 :=
    if 10 ≤ x3 then (if 20 ≤ x3 then (if x3 = 20 then (some (F_X9_withWax_0 x2 0)) else (if (F_X9_waxIn_0 x2) = 0 then (ob (F_X2_rinsed_0 x2) (fun r94 => some r94)) else (some x2))) else (ck (inR (x3 - 10) 3) (if (((σ.1 15 (Int32.toNatClampNeg (x3 - 10))) >>> (x1 &&& (31 : Int32))) &&& 1) = 0 then (F_X2_after_57 x2 0 σ) else (F_X2_after_57 x2 1 σ)))) else (if (F_X9_waxIn_0 x2) = 0 then (ob (F_X2_dyed_0 x1 x2 x3 σ) (fun r17 => some r17)) else (ob (F_X2_cracked_0 x1 x2 σ) (fun r26 => some r26)))
def F_X2_apply_50 (g6 : Int32 → Int32 → Int32 → gS → Option (Int32 × gS)) (c2 : Nat) (c3 : Nat) (x1 : Int32) (x5 : Int32) (y0 : Int32) (y1 : Int32) (σ : gS) : Option (Int32 × gS) :=
    bd (y1 ||| y0) (fun x51 => bd (x5 + 1) (fun x53 => g6 x1 x51 x53 σ))
def F_X2_apply_6 (c2 : Nat) (c3 : Nat) : Nat → Int32 → Int32 → Int32 → gS → Option (Int32 × gS)
  | 0, _, _, _, _ => none
  | n + 1, x1, x4, x5, σ =>
    if (σ.1 10 0) ≤ x5 then (ck (nb x4) (some (x4, σ))) else (ck (inR x5 8) (bd (σ.1 c2 (Int32.toNatClampNeg x5)) (fun x19 => ob (F_X2_after_0 x5 x19 x1 σ) (fun r30 => ck (inR x5 8) (bd (sI σ c3 (Int32.toNatClampNeg x5) r30) (fun σ33 => ck (inR x5 8) (if (σ33.1 c3 (Int32.toNatClampNeg x5)) = x19 then (F_X2_apply_50 (F_X2_apply_6 c2 c3 n) c2 c3 x1 x5 0 x4 σ33) else (F_X2_apply_50 (F_X2_apply_6 c2 c3 n) c2 c3 x1 x5 1 x4 σ33))))))))
def F_X2_apply_0 (c2 : Nat) (c3 : Nat) (x1 : Int32) (σ : gS) : Option (Int32 × gS) :=
    F_X2_apply_6 c2 c3 fu x1 0 0 σ
def F_X9_darkness_0 (x0 : Int32) : Int32 :=
    ((F_X9_amountOf_0 x0 0) + (F_X9_amountOf_0 x0 1)) + (F_X9_amountOf_0 x0 2)
def F_X2_darknessOf_4 (c1 : Nat) : Nat → Int32 → Int32 → gS → Option Int32
  | 0, _, _, _ => none
  | n + 1, x2, x3, σ =>
    if (σ.1 10 0) ≤ x3 then (some x2) else (ck (inR x3 8) (bd (x2 + (F_X9_darkness_0 (σ.1 c1 (Int32.toNatClampNeg x3)))) (fun x20 => bd (x3 + 1) (fun x21 => F_X2_darknessOf_4 c1 n x20 x21 σ))))
def F_X2_darknessOf_0 (c1 : Nat) (σ : gS) : Option Int32 :=
    F_X2_darknessOf_4 c1 fu 0 0 σ
def F_X2_doingCount_0 (σ : gS) : Int32 :=
    ((σ.1 10 1) + (σ.1 10 2)) + 2
def F_X2_nthDoing_0 (x1 : Int32) (σ : gS) : Int32 :=
    if (σ.1 10 1) ≤ x1 then (if ((σ.1 10 1) + (σ.1 10 2)) ≤ x1 then (((20 + x1) - (σ.1 10 1)) - (σ.1 10 2)) else ((10 + x1) - (σ.1 10 1))) else x1
def F_X2_rightSet_29 (g4 : Int32 → Int32 → gS → Option Int32) (c1 : Nat) (x2 : Int32) (x3 : Int32) (σ : gS) : Option Int32 :=
    bd (x3 + 1) (fun x29 => g4 x2 x29 σ)
def F_X2_rightSet_4 (c1 : Nat) : Nat → Int32 → Int32 → gS → Option Int32
  | 0, _, _, _ => none
  | n + 1, x2, x3, σ =>
    if (σ.1 10 0) ≤ x3 then (some x2) else (ck (inR x3 8) (ob (F_X2_isRight_0 x3 (σ.1 c1 (Int32.toNatClampNeg x3)) σ) (fun r17 => if r17 = 0 then (F_X2_rightSet_29 (F_X2_rightSet_4 c1 n) c1 x2 x3 σ) else (bd (x2 ||| ((1 : Int32) <<< (x3 &&& (31 : Int32)))) (fun x28 => F_X2_rightSet_29 (F_X2_rightSet_4 c1 n) c1 x28 x3 σ)))))
def F_X2_rightSet_0 (c1 : Nat) (σ : gS) : Option Int32 :=
    F_X2_rightSet_4 c1 fu 0 0 σ
def F_J6_bitCount_0f7a4_0 (x0 : Int32) : Int32 :=
    bd (x0 - (((Int32.toUInt32 x0 >>> (Int32.toUInt32 1 &&& Int32.toUInt32 31)).toInt32) &&& 1431655765)) (fun x9 => bd ((x9 &&& 858993459) + (((Int32.toUInt32 x9 >>> (Int32.toUInt32 2 &&& Int32.toUInt32 31)).toInt32) &&& 858993459)) (fun x23 => bd ((x23 + ((Int32.toUInt32 x23 >>> (Int32.toUInt32 4 &&& Int32.toUInt32 31)).toInt32)) &&& 252645135) (fun x33 => bd (x33 + ((Int32.toUInt32 x33 >>> (Int32.toUInt32 8 &&& Int32.toUInt32 31)).toInt32)) (fun x40 => bd (x40 + ((Int32.toUInt32 x40 >>> (Int32.toUInt32 16 &&& Int32.toUInt32 31)).toInt32)) (fun x47 => x47 &&& 63)))))
def F_X2_rightCount_0 (c1 : Nat) (σ : gS) : Option Int32 :=
    ob (F_X2_rightSet_0 c1 σ) (fun r2 => some (F_J6_bitCount_0f7a4_0 r2))
def F_X1_draw_27 : Nat → Int32 → Int64 → Int32 → gS → Option gS
  | 0, _, _, _, _ => none
  | n + 1, x2, x4, x6, σ =>
    if x2 ≤ x6 then (ob (F_X2_darknessOf_0 79 σ) (fun r108 => bd (sI σ 77 2 r108) (fun σ111 => some σ111))) else (bd ((16807 * x4) - (16807 * x4) / 2147483647 * 2147483647) (fun x43 => ck (¬ (Int32.toInt64 (F_X2_doingCount_0 σ)) = 0) (bd (Int64.toInt32 ((x43 / 4) - (x43 / 4) / (Int32.toInt64 (F_X2_doingCount_0 σ)) * (Int32.toInt64 (F_X2_doingCount_0 σ)))) (fun x58 => ob2 (F_X2_apply_0 79 79 (F_X2_nthDoing_0 x58 σ) σ) (fun r75 σ75 => ob (F_X2_rightCount_0 79 σ75) (fun r89 => bd (sI σ75 77 3 ((σ75.1 77 3) + r89)) (fun σ93 => bd (x6 + 1) (fun x96 => F_X1_draw_27 n x2 x43 x96 σ93))))))))
def F_X1_draw_0 (x2 : Int32) (x3 : Int32) (σ : gS) : Option gS :=
    ck (cpR 0 0 8 8 8) (bd (cI σ 13 0 79 0 8) (fun σ12 => bd (sI σ12 77 3 0) (fun σ17 => bd (Int32.toInt64 x3) (fun x22 => F_X1_draw_27 fu x2 x22 0 σ17))))
def F_X2_stands_0 (c0 : Nat) (σ : gS) : Int32 :=
    if (σ.1 c0 0) ≤ 0 then 0 else 1
def F_X2_become_0 (c0 : Nat) (c1 : Nat) (σ : gS) : Option gS :=
    bd (sI σ c0 0 (σ.1 c1 0)) (fun σ5 => bd (sI σ5 c0 1 (σ5.1 c1 1)) (fun σ13 => bd (sI σ13 c0 2 (σ13.1 c1 2)) (fun σ21 => bd (sI σ21 c0 3 (σ21.1 c1 3)) (fun σ29 => ck (cpR 0 0 8 8 8) (bd (cI σ29 (c1 + 1) 0 (c0 + 1) 0 8) (fun σ44 => ck (cpR 0 0 8 8 8) (bd (cI σ44 (c1 + 2) 0 (c0 + 2) 0 8) (fun σ59 => ck (cpR 0 0 8 8 8) (bd (cI σ59 (c1 + 3) 0 (c0 + 3) 0 8) (fun σ74 => ck (cpR 0 0 12 12 12) (bd (cI σ74 (c1 + 4) 0 (c0 + 4) 0 12) (fun σ89 => ck (cpR 0 0 3 3 3) (bd (cI σ89 (c1 + 5) 0 (c0 + 5) 0 3) (fun σ103 => some σ103))))))))))))))
def F_X2_hasSquare_0 (x1 : Int32) (σ : gS) : Int32 :=
    if x1 < 0 then 0 else (if (σ.1 10 0) ≤ x1 then 0 else 1)
def F_X2_hasDye_0 (x1 : Int32) (σ : gS) : Int32 :=
    if x1 < 0 then 0 else (if (σ.1 10 1) ≤ x1 then 0 else 1)
def F_X2_hasStencil_0 (x1 : Int32) (σ : gS) : Int32 :=
    if x1 < 0 then 0 else (if (σ.1 10 2) ≤ x1 then 0 else 1)
def F_X2_hasDoing_62 (σ : gS) : Int32 :=
    1
def F_X2_hasDoing_0 (x1 : Int64) (σ : gS) : Int32 :=
    if (F_X2_stands_0 10 σ) = 0 then 0 else (if (lg_cmp x1 0) < 0 then 0 else (if (lg_cmp x1 21) ≤ 0 then (if (lg_cmp x1 (Int32.toInt64 (σ.1 10 1))) < 0 then (F_X2_hasDoing_62 σ) else (if 0 ≤ (lg_cmp x1 20) then (F_X2_hasDoing_62 σ) else (if (lg_cmp x1 10) < 0 then 0 else (if 0 ≤ (lg_cmp x1 (Int32.toInt64 (10 + (σ.1 10 2)))) then 0 else (F_X2_hasDoing_62 σ))))) else 0))
def F_X2_afterRow_6 (c3 : Nat) : Nat → Int32 → Int32 → Int32 → Int32 → gS → Option Int32
  | 0, _, _, _, _, _ => none
  | n + 1, x1, x4, x5, x6, σ =>
    if x4 ≤ x6 then (some x5) else (ck (inR x6 20) (ob (F_X2_after_0 x1 x5 (σ.1 c3 (Int32.toNatClampNeg x6)) σ) (fun r21 => bd (x6 + 1) (fun x26 => F_X2_afterRow_6 c3 n x1 x4 r21 x26 σ))))
def F_X2_afterRow_0 (c3 : Nat) (x1 : Int32) (x2 : Int32) (x4 : Int32) (σ : gS) : Option Int32 :=
    F_X2_afterRow_6 c3 fu x1 x4 x2 0 σ
def F_X2_waxedSet_30 (g4 : Int32 → Int32 → gS → Option Int32) (x1 : Int32) (x2 : Int32) (σ : gS) : Option Int32 :=
    bd (x2 + 1) (fun x30 => g4 x1 x30 σ)
def F_X2_waxedSet_4 : Nat → Int32 → Int32 → gS → Option Int32
  | 0, _, _, _ => none
  | n + 1, x1, x2, σ =>
    if (σ.1 10 0) ≤ x2 then (some x1) else (ck (inR x2 8) (if (F_X9_waxIn_0 (σ.1 13 (Int32.toNatClampNeg x2))) ≤ 0 then (F_X2_waxedSet_30 (F_X2_waxedSet_4 n) x1 x2 σ) else (bd (x1 ||| ((1 : Int32) <<< (x2 &&& (31 : Int32)))) (fun x29 => F_X2_waxedSet_30 (F_X2_waxedSet_4 n) x29 x2 σ))))
def F_X2_waxedSet_0 (σ : gS) : Option Int32 :=
    F_X2_waxedSet_4 fu 0 0 σ
def F_X3_ofLetter_0 (x0 : Int32) : Int32 :=
    if x0 = 99 then 1 else (if x0 = 102 then 5 else (if x0 = 108 then 2 else (if x0 = 115 then 3 else (if x0 = 119 then 4 else (0)))))
def F_X3_isUnder_33 (x1 : Int32) (x2 : Int32) (σ : gS) : Option Int32 :=
    if x2 = x1 then (some 1) else (some 0)
def F_X3_isUnder_4 : Nat → Int32 → Int32 → Int32 → gS → Option Int32
  | 0, _, _, _, _ => none
  | n + 1, x1, x2, x3, σ =>
    if 6 ≤ x3 then (F_X3_isUnder_33 x1 x2 σ) else (if x2 ≤ 0 then (F_X3_isUnder_33 x1 x2 σ) else (if x2 = x1 then (F_X3_isUnder_33 x1 x2 σ) else (ck (inR x2 6) (bd (abv (Int32.toNatClampNeg x2)) (fun x26 => bd (x3 + 1) (fun x27 => F_X3_isUnder_4 n x1 x26 x27 σ))))))
def F_X3_isUnder_0 (x0 : Int32) (x1 : Int32) (σ : gS) : Option Int32 :=
    F_X3_isUnder_4 fu x1 x0 0 σ
def F_X3_thatTake_43 (g6 : Int32 → Int32 → Int32 → Int64 → Int32 → Int32 → Option Int32) (x0 : Int32) (x1 : Int32) (x2 : Int32) (x3 : Int64) (x5 : Int32) (x6 : Int32) : Option Int32 :=
    bd (x6 + 1) (fun x43 => g6 x0 x1 x2 x3 x5 x43)
def F_X3_thatTake_6 : Nat → Int32 → Int32 → Int32 → Int64 → Int32 → Int32 → Option Int32
  | 0, _, _, _, _, _, _ => none
  | n + 1, x0, x1, x2, x3, x5, x6 =>
    if 5 < x6 then (some x5) else (if ((x0 >>> (x6 &&& (31 : Int32))) &&& 1) = 0 then (F_X3_thatTake_43 (F_X3_thatTake_6 n) x0 x1 x2 x3 x5 x6) else (ob (F_X3_taken_0 x6 x2 x1) (fun r25 => if (lg_cmp (Int32.toInt64 r25) x3) = 0 then (bd (x5 ||| ((1 : Int32) <<< (x6 &&& (31 : Int32)))) (fun x41 => F_X3_thatTake_43 (F_X3_thatTake_6 n) x0 x1 x2 x3 x41 x6)) else (F_X3_thatTake_43 (F_X3_thatTake_6 n) x0 x1 x2 x3 x5 x6))))
def F_X3_thatTake_0 (x0 : Int32) (x1 : Int32) (x2 : Int32) (x3 : Int64) : Option Int32 :=
    F_X3_thatTake_6 fu x0 x1 x2 x3 0 1
def F_X3_greatestPart_5 : Nat → Int32 → Int32 → Int32 → Int32 → Int32 → Option Int32
  | 0, _, _, _, _, _ => none
  | n + 1, x0, x1, x2, x3, x4 =>
    if 4 < x4 then (some x3) else (ob (F_X3_thatTake_0 x0 x1 x2 (Int32.toInt64 x4)) (fun r18 => bd (mx x3 (F_J6_bitCount_0f7a4_0 r18)) (fun x27 => bd (x4 + 1) (fun x28 => F_X3_greatestPart_5 n x0 x1 x2 x27 x28))))
def F_X3_greatestPart_0 (x0 : Int32) (x1 : Int32) (x2 : Int32) : Option Int32 :=
    F_X3_greatestPart_5 fu x0 x1 x2 0 0
def F_X3_bestTry_39 (g12 : Int32 → Int32 → Int32 → Int32 → Int32 → Option Int32) (x0 : Int32) (x1 : Int32) (x2 : Int32) (x3 : Int32) (x4 : Int32) : Option Int32 :=
    bd (x4 + 1) (fun x39 => g12 x0 x1 x2 x3 x39)
def F_X3_bestTry_12 : Nat → Int32 → Int32 → Int32 → Int32 → Int32 → Option Int32
  | 0, _, _, _, _, _ => none
  | n + 1, x0, x1, x2, x3, x4 =>
    if 3 < x4 then (some x2) else (ob (F_X3_greatestPart_0 x0 x1 x4) (fun r22 => if x3 ≤ r22 then (F_X3_bestTry_39 (F_X3_bestTry_12 n) x0 x1 x2 x3 x4) else (F_X3_bestTry_39 (F_X3_bestTry_12 n) x0 x1 x4 r22 x4)))
def F_X3_bestTry_0 (x0 : Int32) (x1 : Int32) : Option Int32 :=
    ob (F_X3_greatestPart_0 x0 x1 1) (fun r5 => F_X3_bestTry_12 fu x0 x1 1 r5 2)
def F_X4_forget_0 (σ : gS) : Option gS :=
    bd (sI σ 16 0 0) (fun σ2 => some σ2)
def F_X4_keep_0 (c1 : Nat) (σ : gS) : Option gS :=
    ck (inR (σ.1 16 1) 24) (ck (cpR 0 0 8 8 8) (bd (cI σ c1 0 (18 + (Int32.toNatClampNeg (σ.1 16 1))) 0 8) (fun σ14 => bd (sI σ14 16 1 (((σ14.1 16 1) + 1) - ((σ14.1 16 1) + 1) / 24 * 24)) (fun σ27 => bd (sI σ27 16 0 (mn ((σ27.1 16 0) + 1) 24)) (fun σ42 => some σ42)))))
def F_X4_takeBack_0 (c1 : Nat) (σ : gS) : Option (Int32 × gS) :=
    if (σ.1 16 0) = 0 then (some (0, σ)) else (bd (sI σ 16 1 ((((σ.1 16 1) + 24) - 1) - (((σ.1 16 1) + 24) - 1) / 24 * 24)) (fun σ22 => bd (sI σ22 16 0 ((σ22.1 16 0) - 1)) (fun σ32 => ck (inR (σ32.1 16 1) 24) (ck (cpR 0 0 8 8 8) (bd (cI σ32 (18 + (Int32.toNatClampNeg (σ32.1 16 1))) 0 c1 0 8) (fun σ49 => some (1, σ49)))))))
def F_X5_isWaxOnly_0 (x0 : Int32) : Int32 :=
    if x0 < 10 then 0 else (if 20 < x0 then 0 else 1)
def F_X5_judge_0 (x1 : Int32) (x2 : Int32) (σ : gS) : Option gS :=
    if (σ.1 64 0) < x1 then (bd (sI σ 64 0 x1) (fun σ11 => bd (sI σ11 64 1 x2) (fun σ16 => ck (cpR 0 0 x2 4 4) (bd (cI σ16 66 0 65 0 x2) (fun σ30 => some σ30))))) else (some σ)
def F_X5_extend_126 (rc : Int32 → Int32 → gS → Option gS) (g23 : Int32 → Int32 → Int32 → Int32 → gS → Option gS) (x2 : Int32) (x3 : Int32) (x4 : Int32) (x5 : Int32) (σ : gS) : Option gS :=
    bd (x5 + 1) (fun x126 => g23 x2 x3 x4 x126 σ)
def F_X5_extend_64 (rc : Int32 → Int32 → gS → Option gS) (g23 : Int32 → Int32 → Int32 → Int32 → gS → Option gS) (x2 : Int32) (x3 : Int32) (x4 : Int32) (x5 : Int32) (σ : gS) : Option gS :=
    ck (inR x2 4) (ck (inR x2 5) (ck (inR (x2 + 1) 5) (ob2 (F_X2_apply_0 (68 + (Int32.toNatClampNeg x2)) (68 + (Int32.toNatClampNeg (x2 + 1))) (σ.1 66 (Int32.toNatClampNeg x2)) σ) (fun r85 σ85 => if r85 = 0 then (F_X5_extend_126 rc g23 x2 x3 x4 x5 σ85) else (if x4 = 0 then (ob (rc (x2 + 1) x3 σ85) (fun σ123 => F_X5_extend_126 rc g23 x2 x3 x4 x5 σ123)) else (ck (inR x3 5) (ob (F_X2_rightCount_0 (68 + (Int32.toNatClampNeg x3)) σ85) (fun r107 => ob (F_X5_judge_0 r107 x3 σ85) (fun σ111 => F_X5_extend_126 rc g23 x2 x3 x4 x5 σ111)))))))))
def F_X5_extend_23 (rc : Int32 → Int32 → gS → Option gS) : Nat → Int32 → Int32 → Int32 → Int32 → gS → Option gS
  | 0, _, _, _, _, _ => none
  | n + 1, x2, x3, x4, x5, σ =>
    if (F_X2_doingCount_0 σ) ≤ x5 then (some σ) else (ck (inR x2 4) (bd (sI σ 66 (Int32.toNatClampNeg x2) (F_X2_nthDoing_0 x5 σ)) (fun σ43 => if x4 = 0 then (F_X5_extend_64 rc (F_X5_extend_23 rc n) x2 x3 x4 x5 σ43) else (ck (inR x2 4) (if (F_X5_isWaxOnly_0 (σ43.1 66 (Int32.toNatClampNeg x2))) = 0 then (F_X5_extend_64 rc (F_X5_extend_23 rc n) x2 x3 x4 x5 σ43) else (F_X5_extend_126 rc (F_X5_extend_23 rc n) x2 x3 x4 x5 σ43))))))
def F_X5_extend_18 (rc : Int32 → Int32 → gS → Option gS) (x2 : Int32) (x3 : Int32) (y0 : Int32) (σ : gS) : Option gS :=
    F_X5_extend_23 rc fu x2 x3 y0 0 σ
def F_X5_extend_0 (rc : Int32 → Int32 → gS → Option gS) (x2 : Int32) (x3 : Int32) (σ : gS) : Option gS :=
    if x2 < 4 then (if (x2 + 1) = x3 then (F_X5_extend_18 rc x2 x3 1 σ) else (F_X5_extend_18 rc x2 x3 0 σ)) else (some σ)
def F_X5_extend : Nat → Int32 → Int32 → gS → Option gS
  | 0, _, _, _ => none
  | n + 1, a2, a3, σ => F_X5_extend_0 (F_X5_extend n) a2 a3 σ
def F_X5_search_36 : Nat → Int32 → Int32 → gS → Option gS
  | 0, _, _, _ => none
  | n + 1, x2, x3, σ =>
    if x2 < x3 then (some σ) else (if (σ.1 10 0) ≤ (σ.1 64 0) then (some σ) else (ob (F_X5_extend 7 0 x3 σ) (fun σ56 => bd (x3 + 1) (fun x59 => F_X5_search_36 n x2 x59 σ56))))
def F_X5_search_0 (x2 : Int32) (σ : gS) : Option gS :=
    ck (cpR 0 0 8 8 8) (bd (cI σ 13 0 68 0 8) (fun σ14 => ob (F_X2_rightCount_0 13 σ14) (fun r23 => bd (sI σ14 64 0 r23) (fun σ26 => bd (sI σ26 64 1 0) (fun σ31 => F_X5_search_36 fu x2 1 σ31)))))
def F_X10_at_0 (x1 : Int32) (σ : gS) : Option Int32 :=
    if x1 < 0 then (some (-1)) else (if (σ.1 1 0) ≤ x1 then (some (-1)) else (ck (inR x1 80) (some (σ.1 2 (Int32.toNatClampNeg x1)))))
def F_X6_figure_0 (x1 : Int32) (x2 : Int32) (σ : gS) : Option (Int32 × gS) :=
    ob (F_X10_at_0 (σ.1 3 1) σ) (fun r8 => bd (r8 - 48) (fun x14 => if x14 < x1 then (some ((-1), σ)) else (if x14 ≤ x2 then (bd (sI σ 3 1 ((σ.1 3 1) + 1)) (fun σ34 => some (x14, σ34))) else (some ((-1), σ)))))
def F_X6_readDye_2 : Nat → Int32 → Int32 → gS → Option (Int32 × gS)
  | 0, _, _, _ => none
  | n + 1, x1, x2, σ =>
    if 3 ≤ x2 then (some (1, σ)) else (ob2 (F_X6_figure_0 0 3 σ) (fun r10 σ10 => if r10 = (-1) then (some (0, σ10)) else (ck (inR ((x1 * 3) + x2) 12) (bd (sI σ10 8 (Int32.toNatClampNeg ((x1 * 3) + x2)) r10) (fun σ34 => bd (x2 + 1) (fun x35 => F_X6_readDye_2 n x1 x35 σ34))))))
def F_X6_readDye_0 (x1 : Int32) (σ : gS) : Option (Int32 × gS) :=
    F_X6_readDye_2 fu x1 0 σ
def F_X6_sign_0 (x1 : Int32) (σ : gS) : Option (Int32 × gS) :=
    ob (F_X10_at_0 (σ.1 3 1) σ) (fun r8 => if r8 = x1 then (bd (sI σ 3 1 ((σ.1 3 1) + 1)) (fun σ24 => some (1, σ24))) else (some (0, σ)))
def F_X6_readDyes_52 (σ : gS) : Option (Int32 × gS) :=
    ob2 (F_X6_sign_0 59 σ) (fun r55 σ55 => ck (nb r55) (some (r55, σ55)))
def F_X6_readDyes_2 : Nat → Int32 → gS → Option (Int32 × gS)
  | 0, _, _ => none
  | n + 1, x1, σ =>
    if 4 ≤ x1 then (F_X6_readDyes_52 σ) else (ob2 (F_X6_readDye_0 x1 σ) (fun r9 σ9 => if r9 = 0 then (some (0, σ9)) else (bd (sI σ9 4 1 (x1 + 1)) (fun σ24 => if (x1 + 1) = 4 then (F_X6_readDyes_52 σ24) else (ob2 (F_X6_sign_0 44 σ24) (fun r37 σ37 => if r37 = 0 then (F_X6_readDyes_52 σ37) else (bd (x1 + 1) (fun x46 => F_X6_readDyes_2 n x46 σ37))))))))
def F_X6_readDyes_0 (σ : gS) : Option (Int32 × gS) :=
    F_X6_readDyes_2 fu 0 σ
def F_X6_readSquare_0 (x1 : Int32) (σ : gS) : Option (Int32 × gS) :=
    ob (F_X10_at_0 (σ.1 3 1) σ) (fun r8 => bd (F_X3_ofLetter_0 r8) (fun x14 => if x14 = 0 then (some (0, σ)) else (bd (sI σ 3 1 ((σ.1 3 1) + 1)) (fun σ28 => ob2 (F_X6_figure_0 0 7 σ28) (fun r35 σ35 => if r35 = (-1) then (some (0, σ35)) else (ck (inR x1 8) (bd (sI σ35 5 (Int32.toNatClampNeg x1) x14) (fun σ55 => ck (inR x1 8) (bd (sI σ55 6 (Int32.toNatClampNeg x1) r35) (fun σ65 => some (1, σ65)))))))))))
def F_X6_readSquares_54 (σ : gS) : Option (Int32 × gS) :=
    ob2 (F_X6_sign_0 59 σ) (fun r57 σ57 => ck (nb r57) (some (r57, σ57)))
def F_X6_readSquares_2 : Nat → Int32 → gS → Option (Int32 × gS)
  | 0, _, _ => none
  | n + 1, x1, σ =>
    if 8 ≤ x1 then (F_X6_readSquares_54 σ) else (ob2 (F_X6_readSquare_0 x1 σ) (fun r10 σ10 => if r10 = 0 then (some (0, σ10)) else (bd (sI σ10 4 0 (x1 + 1)) (fun σ25 => if (x1 + 1) = 8 then (F_X6_readSquares_54 σ25) else (ob2 (F_X6_sign_0 44 σ25) (fun r39 σ39 => if r39 = 0 then (F_X6_readSquares_54 σ39) else (bd (x1 + 1) (fun x48 => F_X6_readSquares_2 n x48 σ39))))))))
def F_X6_readSquares_0 (σ : gS) : Option (Int32 × gS) :=
    F_X6_readSquares_2 fu 0 σ
def F_X6_readStencil_6 : Nat → Int32 → Int32 → Int32 → gS → Option (Int32 × gS)
  | 0, _, _, _, _ => none
  | n + 1, x1, x2, x3, σ =>
    if 8 ≤ x3 then (some (x1, σ)) else (ob2 (F_X6_figure_0 x2 ((σ.1 4 0) - 1) σ) (fun r23 σ23 => if r23 = (-1) then (some (x1, σ23)) else (bd (x1 ||| ((1 : Int32) <<< (r23 &&& (31 : Int32)))) (fun x43 => bd (r23 + 1) (fun x48 => bd (x3 + 1) (fun x49 => F_X6_readStencil_6 n x43 x48 x49 σ23))))))
def F_X6_readStencil_0 (σ : gS) : Option (Int32 × gS) :=
    F_X6_readStencil_6 fu 0 0 0 σ
def F_X6_readStencils_63 (σ : gS) : Option (Int32 × gS) :=
    ob (F_X10_at_0 (σ.1 3 1) σ) (fun r71 => if r71 = (-1) then (some (1, σ)) else (some (0, σ)))
def F_X6_readStencils_2 : Nat → Int32 → gS → Option (Int32 × gS)
  | 0, _, _ => none
  | n + 1, x1, σ =>
    if 3 ≤ x1 then (F_X6_readStencils_63 σ) else (ob2 (F_X6_readStencil_0 σ) (fun r8 σ8 => if r8 = 0 then (some (0, σ8)) else (ck (inR x1 3) (bd (sI σ8 9 (Int32.toNatClampNeg x1) r8) (fun σ27 => bd (sI σ27 4 2 (x1 + 1)) (fun σ35 => if (x1 + 1) = 3 then (F_X6_readStencils_63 σ35) else (ob2 (F_X6_sign_0 44 σ35) (fun r48 σ48 => if r48 = 0 then (F_X6_readStencils_63 σ48) else (bd (x1 + 1) (fun x57 => F_X6_readStencils_2 n x57 σ48))))))))))
def F_X6_readStencils_0 (σ : gS) : Option (Int32 × gS) :=
    F_X6_readStencils_2 fu 0 σ
def F_X6_read_0 (σ : gS) : Option (Int32 × gS) :=
    bd (sI σ 3 1 0) (fun σ2 => ob2 (F_X6_sign_0 119 σ2) (fun r8 σ8 => if r8 = 0 then (some (0, σ8)) else (ob2 (F_X6_readSquares_0 σ8) (fun r15 σ15 => if r15 = 0 then (some (0, σ15)) else (ob2 (F_X6_readDyes_0 σ15) (fun r22 σ22 => if r22 = 0 then (some (0, σ22)) else (ob2 (F_X6_readStencils_0 σ22) (fun r29 σ29 => if r29 = 0 then (some (0, σ29)) else (some (1, σ29))))))))))
def F_X7_lapOf_62 (g28 : Int32 → Int32 → Int32 → Int32 → Int32 → Int32 → Int32 → gS → Option Int32) (c2 : Nat) (x1 : Int32) (x3 : Int32) (x4 : Int32) (x5 : Int32) (x6 : Int32) (x7 : Int32) (x8 : Int32) (σ : gS) : Option Int32 :=
    ob (F_X2_afterRow_0 c2 x1 x5 x3 σ) (fun r68 => bd (x6 + 1) (fun x73 => bd (x8 + 1) (fun x76 => g28 x1 x3 x4 r68 x73 x7 x76 σ)))
def F_X7_lapOf_28 (c2 : Nat) : Nat → Int32 → Int32 → Int32 → Int32 → Int32 → Int32 → Int32 → gS → Option Int32
  | 0, _, _, _, _, _, _, _, _ => none
  | n + 1, x1, x3, x4, x5, x6, x7, x8, σ =>
    if x5 = x4 then (some x6) else (if 100000 ≤ x8 then (some x6) else (if x6 = x7 then (bd (x7 * 2) (fun x57 => F_X7_lapOf_62 (F_X7_lapOf_28 c2 n) c2 x1 x3 x5 x5 0 x57 x8 σ)) else (F_X7_lapOf_62 (F_X7_lapOf_28 c2 n) c2 x1 x3 x4 x5 x6 x7 x8 σ)))
def F_X7_lapOf_0 (c2 : Nat) (x1 : Int32) (x3 : Int32) (σ : gS) : Option Int32 :=
    ck (inR x1 8) (bd (σ.1 13 (Int32.toNatClampNeg x1)) (fun x6 => ob (F_X2_afterRow_0 c2 x1 x6 x3 σ) (fun r14 => F_X7_lapOf_28 c2 fu x1 x3 x6 r14 1 1 0 σ)))
def F_X7_leadOf_45 (c2 : Nat) : Nat → Int32 → Int32 → Int32 → Int32 → Int32 → Int32 → gS → Option Int32
  | 0, _, _, _, _, _, _, _ => none
  | n + 1, x1, x3, x5, x6, x7, x8, σ =>
    if x6 = x5 then (some x7) else (if 100000 ≤ x8 then (some x7) else (ob (F_X2_afterRow_0 c2 x1 x6 x3 σ) (fun r65 => ob (F_X2_afterRow_0 c2 x1 x5 x3 σ) (fun r76 => bd (x7 + 1) (fun x81 => bd (x8 + 1) (fun x84 => F_X7_leadOf_45 c2 n x1 x3 r76 r65 x81 x84 σ))))))
def F_X7_leadOf_15 (c2 : Nat) : Nat → Int32 → Int32 → Int32 → Int32 → Int32 → Int32 → gS → Option Int32
  | 0, _, _, _, _, _, _, _ => none
  | n + 1, x1, x3, x4, x5, x6, x7, σ =>
    if x4 ≤ x7 then (F_X7_leadOf_45 c2 fu x1 x3 x5 x6 0 0 σ) else (ob (F_X2_afterRow_0 c2 x1 x6 x3 σ) (fun r28 => bd (x7 + 1) (fun x33 => F_X7_leadOf_15 c2 n x1 x3 x4 x5 r28 x33 σ)))
def F_X7_leadOf_0 (c2 : Nat) (x1 : Int32) (x3 : Int32) (x4 : Int32) (σ : gS) : Option Int32 :=
    ck (inR x1 8) (bd (σ.1 13 (Int32.toNatClampNeg x1)) (fun x6 => F_X7_leadOf_15 c2 fu x1 x3 x4 x6 x6 0 σ))
def F_X7_measure_13 (c2 : Nat) : Nat → Int32 → Int32 → gS → Option gS
  | 0, _, _, _ => none
  | n + 1, x3, x4, σ =>
    if (σ.1 10 0) ≤ x4 then (some σ) else (ob (F_X7_lapOf_0 c2 x4 x3 σ) (fun r27 => ob (F_X7_leadOf_0 c2 x4 x3 r27 σ) (fun r39 => bd (sI σ 80 0 (mx (σ.1 80 0) r39)) (fun σ54 => ob (F_X1_greatestCommon_0 r27 (σ54.1 80 1)) (fun r68 => ck (¬ r68 = 0) (bd (sI σ54 80 1 (((σ54.1 80 1) / r68) * r27)) (fun σ75 => bd (x4 + 1) (fun x78 => F_X7_measure_13 c2 n x3 x78 σ75))))))))
def F_X7_measure_0 (c2 : Nat) (x3 : Int32) (σ : gS) : Option gS :=
    bd (sI σ 80 0 0) (fun σ2 => bd (sI σ2 80 1 1) (fun σ7 => F_X7_measure_13 c2 fu x3 0 σ7))
def F_X8_isLane_0 (x0 : Int32) : Int32 :=
    if x0 < 0 then 0 else (if 3 < x0 then 0 else 1)
def F_X8_isNothing_0 (c0 : Nat) (σ : gS) : Int32 :=
    if (σ.1 c0 0) = (-1) then 1 else 0
def F_X8_begin_12 (c0 : Nat) : Nat → Int32 → gS → Option gS
  | 0, _, _ => none
  | n + 1, x3, σ =>
    if 24 ≤ x3 then (some σ) else (ck (inR x3 24) (bd (sJ σ (c0 + 1) (Int32.toNatClampNeg x3) 0) (fun σ24 => bd (x3 + 1) (fun x25 => F_X8_begin_12 c0 n x25 σ24))))
def F_X8_begin_0 (c0 : Nat) (x1 : Int32) (x2 : Int32) (σ : gS) : Option gS :=
    bd (sI σ c0 0 x1) (fun σ2 => bd (sI σ2 c0 1 x2) (fun σ7 => F_X8_begin_12 c0 fu 0 σ7))
def F_X8_end_0 (c0 : Nat) (σ : gS) : Option (Int32 × gS) :=
    bd (sI σ c0 0 (-1)) (fun σ2 => some (σ2.1 c0 1, σ2))
def F_X8_holds_0 (c0 : Nat) (x1 : Int32) (x2 : Int32) (σ : gS) : Int32 :=
    if x1 < 0 then 0 else (if x2 < 0 then 0 else (if (σ.1 c0 1) < x2 then 0 else (if ((σ.1 c0 1) - x2) < x1 then 0 else 1)))
def F_X8_refusal_0 (c0 : Nat) (x1 : Int32) (x2 : Int32) (x3 : Int32) (σ : gS) : Int32 :=
    if (F_X8_isNothing_0 c0 σ) = 0 then (if (σ.1 c0 0) = x1 then (if (F_X8_holds_0 c0 x2 x3 σ) = 0 then (-13) else 0) else (-12)) else (-11)
def F_X8_put_77 (c0 : Nat) (x1 : Int32) (σ : gS) : Option (Int64 × gS) :=
    ck (inR x1 24) (some (σ.2 (c0 + 1) (Int32.toNatClampNeg x1), σ))
def F_X8_put_0 (c0 : Nat) (x1 : Int32) (x2 : Int64) (σ : gS) : Option (Int64 × gS) :=
    bd (σ.1 c0 0) (fun w4 => if w4 = 0 then (ck (inR x1 24) (bd (sJ σ (c0 + 1) (Int32.toNatClampNeg x1) (Int32.toInt64 ((Int32.toInt8 (Int64.toInt32 x2)).toInt32))) (fun σ41 => F_X8_put_77 c0 x1 σ41))) else (if w4 = 1 then (ck (inR x1 24) (bd (sJ σ (c0 + 1) (Int32.toNatClampNeg x1) (Int32.toInt64 ((Int32.toInt16 (Int64.toInt32 x2)).toInt32))) (fun σ54 => F_X8_put_77 c0 x1 σ54))) else (if w4 = 2 then (ck (inR x1 24) (bd (sJ σ (c0 + 1) (Int32.toNatClampNeg x1) (Int32.toInt64 (Int64.toInt32 x2))) (fun σ66 => F_X8_put_77 c0 x1 σ66))) else (ck (inR x1 24) (bd (sJ σ (c0 + 1) (Int32.toNatClampNeg x1) x2) (fun σ76 => F_X8_put_77 c0 x1 σ76))))))
def F_X9_isColour_0 (x0 : Int32) : Int32 :=
    if x0 < 0 then 0 else (if 3 ≤ x0 then 0 else 1)
def F_X9_isAmount_0 (x0 : Int32) : Int32 :=
    if x0 < 0 then 0 else (if 9 < x0 then 0 else 1)
def F_X9_ofShade_0 (x0 : Int32) (x1 : Int32) (x2 : Int32) : Int32 :=
    (x0 ||| (x1 <<< ((4 : Int32) &&& (31 : Int32)))) ||| (x2 <<< ((8 : Int32) &&& (31 : Int32)))
def F_X10_put_0 (x1 : Int32) (σ : gS) : Option (Int32 × gS) :=
    if (σ.1 1 0) < 80 then (bd (σ.1 1 0) (fun d20 => bd (sI σ 1 0 (d20 + 1)) (fun σ23 => ck (inR d20 80) (bd (sI σ23 2 (Int32.toNatClampNeg d20) x1) (fun σ27 => some (1, σ27)))))) else (some (0, σ))
def F_X11_feed_0 (x1 : Int32) (σ : gS) : Option (Int32 × gS) :=
    if x1 < 0 then (some ((-1), σ)) else (if x1 ≤ 255 then (ob2 (F_X10_put_0 x1 σ) (fun r18 σ18 => if r18 = 0 then (some ((-3), σ18)) else (some (σ18.1 1 0, σ18)))) else (some ((-1), σ)))
def F_X11_cloth_0 (σ : gS) : Option (Int32 × gS) :=
    ob2 (F_X6_read_0 σ) (fun r4 σ4 => bd (sI σ4 1 0 0) (fun σ13 => if r4 = 0 then (some ((-100) - (σ13.1 3 1), σ13)) else (ob (F_X2_become_0 10 4 σ13) (fun σ42 => ob (F_X4_forget_0 σ42) (fun σ49 => some (σ49.1 10 0, σ49))))))
def F_X11_square_129 (x2 : Int32) (x3 : Int32) (σ : gS) : Option Int32 :=
    some (F_X9_amountOf_0 x3 (x2 - 6))
def F_X11_square_0 (x1 : Int32) (x2 : Int32) (σ : gS) : Option Int32 :=
    if (F_X2_hasSquare_0 x1 σ) = 0 then (some (-1)) else (ck (inR x1 8) (bd (σ.1 13 (Int32.toNatClampNeg x1)) (fun x22 => if x2 = 0 then (ck (inR x1 8) (some (σ.1 11 (Int32.toNatClampNeg x1)))) else (if x2 = 1 then (ck (inR x1 8) (some (σ.1 12 (Int32.toNatClampNeg x1)))) else (if x2 = 2 then (some (F_X9_waxIn_0 x22)) else (if x2 = 3 then (ob (F_X9_hueOf_0 x22) (fun r102 => some r102)) else (if x2 = 4 then (some (F_X9_darkness_0 x22)) else (if x2 = 5 then (ob (F_X2_isRight_0 x1 x22 σ) (fun r117 => if r117 = 0 then (some 0) else (some 1))) else (if x2 = 6 then (F_X11_square_129 x2 x22 σ) else (if x2 = 7 then (F_X11_square_129 x2 x22 σ) else (if x2 = 8 then (F_X11_square_129 x2 x22 σ) else (some (-1)))))))))))))
def F_X11_as_0 (x1 : Int32) (x2 : Int32) (σ : gS) : Option Int32 :=
    if (F_X2_hasSquare_0 x1 σ) = 0 then (some (-1)) else (if x2 < 0 then (some (-1)) else (if x2 ≤ 5 then (ck (inR x1 8) (ob (F_X3_isUnder_0 (σ.1 11 (Int32.toNatClampNeg x1)) x2 σ) (fun r32 => if r32 = 0 then (some (-12)) else (some x1)))) else (some (-1))))
def F_X11_dye_0 (x1 : Int32) (x2 : Int32) (σ : gS) : Option Int32 :=
    if (F_X2_hasDye_0 x1 σ) = 0 then (some (-1)) else (if (F_X9_isColour_0 x2) = 0 then (some (-1)) else (ob (F_X2_amountInDye_0 x1 x2 σ) (fun r26 => some r26)))
def F_X11_stencil_0 (x1 : Int32) (σ : gS) : Option Int32 :=
    if (F_X2_hasStencil_0 x1 σ) = 0 then (some (-1)) else (ck (inR x1 3) (some (σ.1 15 (Int32.toNatClampNeg x1))))
def F_X11_takes_0 (x1 : Int32) (x2 : Int32) (x3 : Int32) (σ : gS) : Option Int32 :=
    if (F_X2_hasSquare_0 x1 σ) = 0 then (some (-1)) else (if (F_X2_hasDye_0 x2 σ) = 0 then (some (-1)) else (if (F_X9_isColour_0 x3) = 0 then (some (-1)) else (ck (inR x1 8) (bd (σ.1 13 (Int32.toNatClampNeg x1)) (fun x40 => if (F_X9_waxIn_0 x40) ≤ 0 then (ob (F_X2_gain_0 x1 x40 x2 x3 σ) (fun r63 => some r63)) else (some 0))))))
def F_X11_does_0 (x1 : Int32) (σ : gS) : Option (Int32 × gS) :=
    if (F_X2_hasDoing_0 (Int32.toInt64 x1) σ) = 0 then (some ((-1), σ)) else (if (σ.1 10 3) < 9999 then (ob (F_X4_keep_0 13 σ) (fun σ41 => ob2 (F_X2_apply_0 13 13 x1 σ41) (fun r63 σ63 => bd (sI σ63 10 3 ((σ63.1 10 3) + 1)) (fun σ77 => ob (F_X2_rightSet_0 13 σ77) (fun r91 => some (r91, σ77)))))) else (some ((-3), σ)))
def F_X11_undo_0 (σ : gS) : Option (Int32 × gS) :=
    ob2 (F_X4_takeBack_0 13 σ) (fun r11 σ11 => if r11 = 0 then (some ((-4), σ11)) else (bd (sI σ11 10 3 ((σ11.1 10 3) - 1)) (fun σ30 => some (σ30.1 16 0, σ30))))
def F_X11_wish_0 (x1 : Int32) (x2 : Int32) (σ : gS) : Option (Int32 × gS) :=
    if (F_X2_hasSquare_0 x1 σ) = 0 then (some ((-1), σ)) else (if x2 < 0 then (some ((-1), σ)) else (if x2 ≤ 7 then (ck (inR x1 8) (bd (σ.1 12 (Int32.toNatClampNeg x1)) (fun x32 => ck (inR x1 8) (bd (sI σ 12 (Int32.toNatClampNeg x1) x2) (fun σ42 => some (x32, σ42)))))) else (some ((-1), σ))))
def F_X11_image_0 (x1 : Int32) (σ : gS) : Option (Int32 × gS) :=
    if x1 < 0 then (some ((-1), σ)) else (if x1 < 2 then (if (F_X2_stands_0 10 σ) = 0 then (some ((-2), σ)) else (ck (inR x1 2) (ob (F_X2_become_0 (43 + 6 * (Int32.toNatClampNeg x1)) 10 σ) (fun σ34 => some (σ34.1 10 3, σ34))))) else (some ((-1), σ)))
def F_X11_restore_0 (x1 : Int32) (σ : gS) : Option (Int32 × gS) :=
    if x1 < 0 then (some ((-1), σ)) else (if x1 < 2 then (ck (inR x1 2) (if (F_X2_stands_0 (43 + 6 * (Int32.toNatClampNeg x1)) σ) = 0 then (some ((-2), σ)) else (ck (inR x1 2) (ob (F_X2_become_0 10 (43 + 6 * (Int32.toNatClampNeg x1)) σ) (fun σ36 => ob (F_X4_forget_0 σ36) (fun σ43 => some (σ43.1 10 3, σ43))))))) else (some ((-1), σ)))
def F_X11_plan_0 (x1 : Int32) (x2 : Int32) (σ : gS) : Option (Int32 × gS) :=
    if x1 < 0 then (some ((-1), σ)) else (if 4 < x1 then (some ((-1), σ)) else (if (-2) ≤ x2 then (if (F_X2_stands_0 10 σ) = 0 then (some ((-2), σ)) else (ob (F_X5_search_0 x1 σ) (fun σ39 => if x2 = (-2) then (some (σ39.1 64 0, σ39)) else (if x2 = (-1) then (some (σ39.1 64 1, σ39)) else (if (σ39.1 64 1) ≤ x2 then (some ((-4), σ39)) else (ck (inR x2 4) (some (σ39.1 65 (Int32.toNatClampNeg x2), σ39)))))))) else (some ((-1), σ))))
def F_X11_rows_0 (x1 : Int32) (x2 : Int32) (x3 : Int32) (x4 : Int32) (x5 : Int32) (x6 : Int32) (σ : gS) : Option (Int32 × gS) :=
    if (F_X2_hasSquare_0 x1 σ) = 0 then (some ((-1), σ)) else (if x5 < 0 then (some ((-1), σ)) else (if 5 < x5 then (some ((-1), σ)) else (if (-1) ≤ x6 then (if (F_X9_isAmount_0 x2) = 0 then (some ((-1), σ)) else (if (F_X9_isAmount_0 x3) = 0 then (some ((-1), σ)) else (if (F_X9_isAmount_0 x4) = 0 then (some ((-1), σ)) else (ob (F_X0_walk_0 x1 x5 (F_X9_ofShade_0 x2 x3 x4) σ) (fun σ72 => if x6 = (-1) then (some (σ72.1 73 0, σ72)) else (if (σ72.1 73 0) ≤ 0 then (some ((-4), σ72)) else (if x5 ≤ x6 then (some ((-4), σ72)) else (ck (inR x6 5) (some (σ72.1 74 (Int32.toNatClampNeg x6), σ72)))))))))) else (some ((-1), σ)))))
def F_X11_shades_0 (x1 : Int32) (x2 : Int32) (σ : gS) : Option (Int32 × gS) :=
    if (F_X2_hasSquare_0 x1 σ) = 0 then (some ((-1), σ)) else (if x2 < 0 then (some ((-1), σ)) else (if x2 ≤ 5 then (ob (F_X0_walk_0 x1 x2 0 σ) (fun σ33 => some (σ33.1 73 1, σ33))) else (some ((-1), σ))))
def F_X11_cracks_0 (x1 : Int32) (x2 : Int32) (x3 : Int32) (x4 : Int32) (σ : gS) : Option (Int32 × gS) :=
    if (F_X2_hasDye_0 x1 σ) = 0 then (some ((-1), σ)) else (if x2 < 0 then (some ((-1), σ)) else (if x2 ≤ 8 then (if x3 < 0 then (some ((-1), σ)) else (if 10 < x3 then (some ((-1), σ)) else (if x4 < 0 then (some ((-1), σ)) else (if x4 ≤ 1 then (ob (F_X1_crack_0 x1 x2 x3 σ) (fun σ57 => if x4 = 0 then (some (σ57.1 77 0, σ57)) else (some (σ57.1 77 1, σ57)))) else (some ((-1), σ)))))) else (some ((-1), σ))))
def F_X11_decades_0 (x1 : Int32) (x2 : Int32) (x3 : Int32) (σ : gS) : Option (Int32 × gS) :=
    if x1 < 0 then (some ((-1), σ)) else (if 60 < x1 then (some ((-1), σ)) else (if x2 < 1 then (some ((-1), σ)) else (if 999999 < x2 then (some ((-1), σ)) else (if x3 < 0 then (some ((-1), σ)) else (if x3 ≤ 1 then (if (F_X2_stands_0 10 σ) = 0 then (some ((-2), σ)) else (ob (F_X1_draw_0 x1 x2 σ) (fun σ55 => if x3 = 0 then (some (σ55.1 77 2, σ55)) else (some (σ55.1 77 3, σ55))))) else (some ((-1), σ)))))))
def F_X11_isSheet_0 (x0 : Int32) : Int32 :=
    if x0 < 0 then 0 else (if 4 ≤ x0 then 0 else 1)
def F_X11_sheet_0 (x1 : Int32) (x2 : Int32) (x3 : Int32) (σ : gS) : Option (Int32 × gS) :=
    if (F_X11_isSheet_0 x1) = 0 then (some ((-1), σ)) else (if (F_X8_isLane_0 x2) = 0 then (some ((-1), σ)) else (if x3 ≤ 24 then (if 0 ≤ x3 then (ck (inR x1 4) (ob (F_X8_begin_0 (56 + 2 * (Int32.toNatClampNeg x1)) x2 x3 σ) (fun σ37 => some (x3, σ37)))) else (some ((-14), σ))) else (some ((-1), σ))))
def F_X11_drop_0 (x1 : Int32) (σ : gS) : Option (Int32 × gS) :=
    if (F_X11_isSheet_0 x1) = 0 then (some ((-1), σ)) else (ck (inR x1 4) (if (F_X8_isNothing_0 (56 + 2 * (Int32.toNatClampNeg x1)) σ) = 0 then (ck (inR x1 4) (ob2 (F_X8_end_0 (56 + 2 * (Int32.toNatClampNeg x1)) σ) (fun r30 σ30 => some (r30, σ30)))) else (some ((-11), σ))))
def F_X11_item_0 (x1 : Int32) (x2 : Int32) (x3 : Int32) (x4 : Int64) (σ : gS) : Option (Int64 × gS) :=
    if (F_X11_isSheet_0 x1) = 0 then (some ((-1), σ)) else (if (F_X8_isLane_0 x2) = 0 then (some ((-1), σ)) else (ck (inR x1 4) (bd (F_X8_refusal_0 (56 + 2 * (Int32.toNatClampNeg x1)) x2 x3 1 σ) (fun x30 => if x30 = 0 then (ck (inR x1 4) (ob2 (F_X8_put_0 (56 + 2 * (Int32.toNatClampNeg x1)) x3 x4 σ) (fun r50 σ50 => some (r50, σ50)))) else (some (Int32.toInt64 x30, σ))))))
def F_X11_copy_0 (x1 : Int32) (x2 : Int32) (x3 : Int32) (x4 : Int32) (x5 : Int32) (σ : gS) : Option (Int32 × gS) :=
    if (F_X11_isSheet_0 x1) = 0 then (some ((-1), σ)) else (if (F_X11_isSheet_0 x3) = 0 then (some ((-1), σ)) else (ck (inR x1 4) (ck (inR x3 4) (if (F_X8_isNothing_0 (56 + 2 * (Int32.toNatClampNeg x1)) σ) = 0 then (if (F_X8_isNothing_0 (56 + 2 * (Int32.toNatClampNeg x3)) σ) = 0 then (if (σ.1 (56 + 2 * (Int32.toNatClampNeg x1)) 0) = (σ.1 (56 + 2 * (Int32.toNatClampNeg x3)) 0) then (if (F_X8_holds_0 (56 + 2 * (Int32.toNatClampNeg x1)) x2 x5 σ) = 0 then (some ((-13), σ)) else (if (F_X8_holds_0 (56 + 2 * (Int32.toNatClampNeg x3)) x4 x5 σ) = 0 then (some ((-13), σ)) else (ck (cpR x2 x4 x5 24 24) (bd (cJ σ (56 + 2 * (Int32.toNatClampNeg x1) + 1) x2 (56 + 2 * (Int32.toNatClampNeg x3) + 1) x4 x5) (fun σ108 => some (x5, σ108)))))) else (some ((-12), σ))) else (some ((-11), σ))) else (some ((-11), σ))))))
def F_X11_log_57 : Nat → Int32 → Int32 → Int32 → gS → Option (Int32 × gS)
  | 0, _, _, _, _ => none
  | n + 1, x1, x3, x5, σ =>
    if (σ.1 10 0) ≤ x5 then (some (σ.1 10 0, σ)) else (ck (inR x1 4) (ck (inR x5 8) (ob (F_X9_hueOf_0 (σ.1 13 (Int32.toNatClampNeg x5))) (fun r89 => ob2 (F_X8_put_0 (56 + 2 * (Int32.toNatClampNeg x1)) (x3 + x5) (Int32.toInt64 r89) σ) (fun r93 σ93 => bd (x5 + 1) (fun x97 => F_X11_log_57 n x1 x3 x97 σ93))))))
def F_X11_log_0 (x1 : Int32) (x2 : Int32) (x3 : Int32) (σ : gS) : Option (Int32 × gS) :=
    if (F_X2_stands_0 10 σ) = 0 then (some ((-1), σ)) else (if (F_X11_isSheet_0 x1) = 0 then (some ((-1), σ)) else (if (F_X8_isLane_0 x2) = 0 then (some ((-1), σ)) else (ck (inR x1 4) (bd (F_X8_refusal_0 (56 + 2 * (Int32.toNatClampNeg x1)) x2 x3 (σ.1 10 0) σ) (fun x44 => if x44 = 0 then (F_X11_log_57 fu x1 x3 0 σ) else (some (x44, σ)))))))
def F_X11_takeDoings_49 : Nat → Int32 → Int32 → Int32 → Int32 → gS → Option (Int32 × gS)
  | 0, _, _, _, _, _ => none
  | n + 1, x1, x3, x4, x6, σ =>
    if x4 ≤ x6 then (some (0, σ)) else (ck (inR x1 4) (ck (inR (x3 + x6) 24) (bd (σ.2 (56 + 2 * (Int32.toNatClampNeg x1) + 1) (Int32.toNatClampNeg (x3 + x6))) (fun x70 => if (F_X2_hasDoing_0 x70 σ) = 0 then (some ((-2), σ)) else (ck (inR x6 20) (bd (sI σ 81 (Int32.toNatClampNeg x6) (Int64.toInt32 x70)) (fun σ96 => bd (x6 + 1) (fun x97 => F_X11_takeDoings_49 n x1 x3 x4 x97 σ96))))))))
def F_X11_takeDoings_0 (x1 : Int32) (x2 : Int32) (x3 : Int32) (x4 : Int32) (σ : gS) : Option (Int32 × gS) :=
    if (F_X11_isSheet_0 x1) = 0 then (some ((-1), σ)) else (if (F_X8_isLane_0 x2) = 0 then (some ((-1), σ)) else (if x4 ≤ 20 then (ck (inR x1 4) (bd (F_X8_refusal_0 (56 + 2 * (Int32.toNatClampNeg x1)) x2 x3 x4 σ) (fun x36 => if x36 = 0 then (F_X11_takeDoings_49 fu x1 x3 x4 0 σ) else (some (x36, σ))))) else (some ((-1), σ))))
def F_X11_ahead_0 (x1 : Int32) (x2 : Int32) (x3 : Int32) (x4 : Int32) (x5 : Int32) (x6 : Int32) (σ : gS) : Option (Int32 × gS) :=
    if (F_X2_hasSquare_0 x1 σ) = 0 then (some ((-1), σ)) else (if x5 < 0 then (some ((-1), σ)) else (if x6 < 0 then (some ((-1), σ)) else (if x6 ≤ 2 then (ob2 (F_X11_takeDoings_0 x2 x3 x4 x5 σ) (fun r36 σ36 => if r36 = 0 then (ck (inR x1 8) (ob (F_X2_afterRow_0 81 x1 (σ36.1 13 (Int32.toNatClampNeg x1)) x5 σ36) (fun r69 => if x6 = 0 then (ob (F_X9_hueOf_0 r69) (fun r106 => some (r106, σ36))) else (if x6 = 1 then (some (F_X9_darkness_0 r69, σ36)) else (some (F_X9_waxIn_0 r69, σ36)))))) else (some (r36, σ36)))) else (some ((-1), σ)))))
def F_X11_round_0 (x1 : Int32) (x2 : Int32) (x3 : Int32) (x4 : Int32) (x5 : Int32) (σ : gS) : Option (Int32 × gS) :=
    if (F_X2_stands_0 10 σ) = 0 then (some ((-1), σ)) else (if x4 < 1 then (some ((-1), σ)) else (if x5 < 0 then (some ((-1), σ)) else (if x5 ≤ 1 then (ob2 (F_X11_takeDoings_0 x1 x2 x3 x4 σ) (fun r35 σ35 => if r35 = 0 then (ob (F_X7_measure_0 81 x4 σ35) (fun σ62 => if x5 = 0 then (some (σ62.1 80 0, σ62)) else (some (σ62.1 80 1, σ62)))) else (some (r35, σ35)))) else (some ((-1), σ)))))
def F_X11_areTriples_2 (c0 : Nat) : Nat → Int32 → Int32 → Int32 → gS → Option Int32
  | 0, _, _, _, _ => none
  | n + 1, x1, x2, x3, σ =>
    if x2 ≤ x3 then (some 1) else (ck (inR (x1 + (x3 * 3)) 24) (bd (σ.2 (c0 + 1) (Int32.toNatClampNeg (x1 + (x3 * 3)))) (fun x17 => ck (inR ((x1 + (x3 * 3)) + 1) 24) (bd (σ.2 (c0 + 1) (Int32.toNatClampNeg ((x1 + (x3 * 3)) + 1))) (fun x31 => if (lg_cmp x17 0) < 0 then (some 0) else (if 0 < (lg_cmp x17 9) then (some 0) else (if (lg_cmp x31 0) < 0 then (some 0) else (if (lg_cmp x31 3) ≤ 0 then (bd (x3 + 1) (fun x67 => F_X11_areTriples_2 c0 n x1 x2 x67 σ)) else (some 0)))))))))
def F_X11_areTriples_0 (c0 : Nat) (x1 : Int32) (x2 : Int32) (σ : gS) : Option Int32 :=
    F_X11_areTriples_2 c0 fu x1 x2 0 σ
def F_X11_kindsByTriples_6 (c0 : Nat) : Nat → Int32 → Int32 → Int32 → Int32 → gS → Option Int32
  | 0, _, _, _, _, _ => none
  | n + 1, x1, x2, x3, x4, σ =>
    if x2 ≤ x4 then (some x3) else (bd (x1 + (x4 * 3)) (fun x18 => ck (inR x18 24) (ck (inR (x18 + 1) 24) (ck (inR (x18 + 2) 24) (ob (F_X3_thatTake_0 x3 (Int64.toInt32 (σ.2 (c0 + 1) (Int32.toNatClampNeg x18))) (Int64.toInt32 (σ.2 (c0 + 1) (Int32.toNatClampNeg (x18 + 1)))) (σ.2 (c0 + 1) (Int32.toNatClampNeg (x18 + 2)))) (fun r48 => bd (x4 + 1) (fun x52 => F_X11_kindsByTriples_6 c0 n x1 x2 r48 x52 σ)))))))
def F_X11_kindsByTriples_0 (c0 : Nat) (x1 : Int32) (x2 : Int32) (σ : gS) : Option Int32 :=
    F_X11_kindsByTriples_6 c0 fu x1 x2 62 0 σ
def F_X11_kinds_0 (x1 : Int32) (x2 : Int32) (x3 : Int32) (x4 : Int32) (x5 : Int32) (σ : gS) : Option Int32 :=
    if (F_X11_isSheet_0 x1) = 0 then (some (-1)) else (if (F_X8_isLane_0 x2) = 0 then (some (-1)) else (if x4 < 1 then (some (-1)) else (if x4 ≤ 7 then (if x5 < (-1) then (some (-1)) else (if x5 ≤ 9 then (ck (inR x1 4) (bd (F_X8_refusal_0 (56 + 2 * (Int32.toNatClampNeg x1)) x2 x3 (x4 * 3) σ) (fun x59 => if x59 = 0 then (ck (inR x1 4) (ob (F_X11_areTriples_0 (56 + 2 * (Int32.toNatClampNeg x1)) x3 x4 σ) (fun r78 => if r78 = 0 then (some (-2)) else (ck (inR x1 4) (ob (F_X11_kindsByTriples_0 (56 + 2 * (Int32.toNatClampNeg x1)) x3 x4 σ) (fun r96 => if x5 = (-1) then (some r96) else (if r96 = 0 then (some (-4)) else (ob (F_X3_bestTry_0 r96 x5) (fun r124 => some r124))))))))) else (some x59)))) else (some (-1)))) else (some (-1)))))
def F_X11_wishes_113 (g60 : Int32 → Int32 → Int32 → Int32 → gS → Option Int32) (x1 : Int32) (x3 : Int32) (x5 : Int32) (x6 : Int32) (σ : gS) : Option Int32 :=
    bd (x6 + 1) (fun x113 => g60 x1 x3 x5 x113 σ)
def F_X11_wishes_60 : Nat → Int32 → Int32 → Int32 → Int32 → gS → Option Int32
  | 0, _, _, _, _, _ => none
  | n + 1, x1, x3, x5, x6, σ =>
    if (σ.1 10 0) ≤ x6 then (some x5) else (ck (inR x1 4) (ck (inR (x3 + x6) 24) (ck (inR x6 8) (ob (F_X9_hueOf_0 (σ.1 13 (Int32.toNatClampNeg x6))) (fun r96 => if (lg_cmp (σ.2 (56 + 2 * (Int32.toNatClampNeg x1) + 1) (Int32.toNatClampNeg (x3 + x6))) (Int32.toInt64 r96)) = 0 then (bd (x5 ||| ((1 : Int32) <<< (x6 &&& (31 : Int32)))) (fun x111 => F_X11_wishes_113 (F_X11_wishes_60 n) x1 x3 x111 x6 σ)) else (F_X11_wishes_113 (F_X11_wishes_60 n) x1 x3 x5 x6 σ))))))
def F_X11_wishes_0 (x1 : Int32) (x2 : Int32) (x3 : Int32) (σ : gS) : Option Int32 :=
    if (F_X2_stands_0 10 σ) = 0 then (some (-1)) else (if (F_X11_isSheet_0 x1) = 0 then (some (-1)) else (if (F_X8_isLane_0 x2) = 0 then (some (-1)) else (ck (inR x1 4) (bd (F_X8_refusal_0 (56 + 2 * (Int32.toNatClampNeg x1)) x2 x3 (σ.1 10 0) σ) (fun x44 => if x44 = 0 then (F_X11_wishes_60 fu x1 x3 0 0 σ) else (some x44))))))
def F_X11_count_0 (x1 : Int32) (σ : gS) : Option Int32 :=
    if x1 = 0 then (some (σ.1 10 0)) else (if x1 = 1 then (some (σ.1 10 1)) else (if x1 = 2 then (some (σ.1 10 2)) else (if x1 = 3 then (some (σ.1 10 3)) else (if x1 = 4 then (ob (F_X2_rightSet_0 13 σ) (fun r95 => some r95)) else (if x1 = 5 then (ob (F_X2_waxedSet_0 σ) (fun r103 => some r103)) else (if x1 = 6 then (ob (F_X2_darknessOf_0 13 σ) (fun r118 => some r118)) else (if x1 = 7 then (some (σ.1 16 0)) else (if x1 = 8 then (some (σ.1 1 0)) else (some (-1))))))))))
def F_X12_in_0 (x0 : Int64) (x2 : Int64) (x4 : Int64) : Int32 :=
    if (lg_cmp x0 x2) < 0 then 0 else (if 0 < (lg_cmp x0 x4) then 0 else 1)
def F_X12_has_0 (x0 : Int32) (x1 : Int32) : Int32 :=
    if ((x0 >>> (x1 &&& (31 : Int32))) &&& 1) = 1 then 1 else 0
def F_X12_bits_4 : Nat → Int32 → Int32 → Option Int32
  | 0, _, _ => none
  | n + 1, x1, x2 =>
    if x2 = 0 then (some x1) else (bd (x1 + 1) (fun x8 => bd (x2 &&& (x2 - 1)) (fun x16 => F_X12_bits_4 n x8 x16)))
def F_X12_bits_0 (x0 : Int32) : Option Int32 :=
    F_X12_bits_4 fu 0 x0
def F_X12_copies_3 (c0 : Nat) (c2 : Nat) : Nat → Int32 → Int32 → Int32 → Int32 → gS → Option gS
  | 0, _, _, _, _, _ => none
  | n + 1, x1, x3, x4, x5, σ =>
    if x4 ≤ x5 then (some σ) else (ck (inR (x1 + x5) (ln c0)) (ck (inR (x3 + x5) (ln c2)) (bd (sI σ c2 (Int32.toNatClampNeg (x3 + x5)) (σ.1 c0 (Int32.toNatClampNeg (x1 + x5)))) (fun σ21 => bd (x5 + 1) (fun x22 => F_X12_copies_3 c0 c2 n x1 x3 x4 x22 σ21)))))
def F_X12_copies_0 (c0 : Nat) (c2 : Nat) (x1 : Int32) (x3 : Int32) (x4 : Int32) (σ : gS) : Option gS :=
    F_X12_copies_3 c0 c2 fu x1 x3 x4 0 σ
def F_X12_less_0 (x0 : Int32) (x1 : Int32) : Int32 :=
    if x1 ≤ x0 then x1 else x0
def F_X12_feed_0 (x1 : Int32) (σ : gS) : Option (Int32 × gS) :=
    if (F_X12_in_0 (Int32.toInt64 x1) 0 255) = 0 then (some ((-1), σ)) else (if (σ.1 82 11) = 80 then (some ((-3), σ)) else (ck (inR (σ.1 82 11) 80) (bd (sI σ 91 (Int32.toNatClampNeg (σ.1 82 11)) x1) (fun σ35 => bd (sI σ35 82 11 ((σ35.1 82 11) + 1)) (fun σ43 => some (σ43.1 82 11, σ43))))))
def F_X12_here_0 (σ : gS) : Option Int32 :=
    if (σ.1 82 11) ≤ (σ.1 82 15) then (some (-1)) else (ck (inR (σ.1 82 15) 80) (some (σ.1 91 (Int32.toNatClampNeg (σ.1 82 15)))))
def F_X12_eats_28 (x2 : Int32) (y0 : Int32) (y1 : Int32) (σ : gS) : Option (Int32 × gS) :=
    bd (sI σ 82 15 (y1 + y0)) (fun σ29 => ck (nb x2) (some (x2, σ29)))
def F_X12_eats_13 (y0 : Int32) (σ : gS) : Option (Int32 × gS) :=
    if y0 = 0 then (F_X12_eats_28 y0 0 (σ.1 82 15) σ) else (F_X12_eats_28 y0 1 (σ.1 82 15) σ)
def F_X12_eats_0 (x1 : Int32) (σ : gS) : Option (Int32 × gS) :=
    ob (F_X12_here_0 σ) (fun r1 => if r1 = x1 then (F_X12_eats_13 1 σ) else (F_X12_eats_13 0 σ))
def F_X12_figure_0 (x1 : Int32) (x2 : Int32) (σ : gS) : Option (Int32 × gS) :=
    ob (F_X12_here_0 σ) (fun r1 => if (F_X12_in_0 (Int32.toInt64 (r1 - 48)) (Int32.toInt64 x1) (Int32.toInt64 x2)) = 0 then (some (0, σ)) else (ob (F_X12_here_0 σ) (fun r22 => bd (sI σ 82 16 (r22 - 48)) (fun σ28 => bd (sI σ28 82 15 ((σ28.1 82 15) + 1)) (fun σ38 => some (1, σ38))))))
def F_X12_kindBy_0 (x0 : Int32) : Int32 :=
    if x0 = 99 then 1 else (if x0 = 102 then 5 else (if x0 = 108 then 2 else (if x0 = 115 then 3 else (if x0 = 119 then 4 else (0)))))
def F_X12_readsSquare_0 (σ : gS) : Option (Int32 × gS) :=
    bd (σ.1 84 0) (fun x6 => ob (F_X12_here_0 σ) (fun r8 => bd (F_X12_kindBy_0 r8) (fun x14 => if x14 = 0 then (some (0, σ)) else (bd (sI σ 82 15 ((σ.1 82 15) + 1)) (fun σ28 => ck (inR (3 + x6) 26) (bd (sI σ28 84 (Int32.toNatClampNeg (3 + x6)) x14) (fun σ39 => ob2 (F_X12_figure_0 0 7 σ39) (fun r44 σ44 => if r44 = 0 then (some (0, σ44)) else (ck (inR x6 8) (bd (sI σ44 85 (Int32.toNatClampNeg x6) (σ44.1 82 16)) (fun σ61 => bd (sI σ61 84 0 ((σ61.1 84 0) + 1)) (fun σ71 => some (1, σ71)))))))))))))
def F_X12_readsDye_2 : Nat → Int32 → gS → Option (Int32 × gS)
  | 0, _, _ => none
  | n + 1, x1, σ =>
    if 3 ≤ x1 then (bd (sI σ 84 1 ((σ.1 84 1) + 1)) (fun σ55 => some (1, σ55))) else (ob2 (F_X12_figure_0 0 3 σ) (fun r10 σ10 => if r10 = 0 then (some (0, σ10)) else (ck (inR ((11 + (3 * (σ10.1 84 1))) + x1) 26) (bd (sI σ10 84 (Int32.toNatClampNeg ((11 + (3 * (σ10.1 84 1))) + x1)) (σ10.1 82 16)) (fun σ39 => bd (x1 + 1) (fun x40 => F_X12_readsDye_2 n x40 σ39))))))
def F_X12_readsDye_0 (σ : gS) : Option (Int32 × gS) :=
    F_X12_readsDye_2 fu 0 σ
def F_X12_readsStencil_4 : Nat → Int32 → Int32 → gS → Option (Int32 × gS)
  | 0, _, _, _ => none
  | n + 1, x1, x2, σ =>
    ob2 (F_X12_figure_0 (x1 + 1) ((σ.1 84 0) - 1) σ) (fun r16 σ16 => if r16 = 0 then (ck (inR (23 + (σ16.1 84 2)) 26) (bd (sI σ16 84 (Int32.toNatClampNeg (23 + (σ16.1 84 2))) x2) (fun σ50 => bd (sI σ50 84 2 ((σ50.1 84 2) + 1)) (fun σ60 => if x2 = 0 then (some (0, σ60)) else (some (1, σ60)))))) else (bd (σ16.1 82 16) (fun x26 => bd (x2 ||| ((1 : Int32) <<< (x26 &&& (31 : Int32)))) (fun x32 => F_X12_readsStencil_4 n x26 x32 σ16))))
def F_X12_readsStencil_0 (σ : gS) : Option (Int32 × gS) :=
    F_X12_readsStencil_4 fu (-1) 0 σ
def F_X12_another_0 (x1 : Int32) (x2 : Int32) (σ : gS) : Option (Int32 × gS) :=
    ck (inR x1 26) (if x2 ≤ (σ.1 84 (Int32.toNatClampNeg x1)) then (some (0, σ)) else (ob2 (F_X12_eats_0 44 σ) (fun r13 σ13 => if r13 = 0 then (some (0, σ13)) else (some (1, σ13)))))
def F_X12_reads_117 : Nat → gS → Option (Int32 × gS)
  | 0, _ => none
  | n + 1, σ =>
    ob2 (F_X12_another_0 2 3 σ) (fun r120 σ120 => if r120 = 0 then (if (σ120.1 82 15) = (σ120.1 82 11) then (some (1, σ120)) else (some (0, σ120))) else (ob2 (F_X12_readsStencil_0 σ120) (fun r127 σ127 => if r127 = 0 then (some (0, σ127)) else (F_X12_reads_117 n σ127))))
def F_X12_reads_81 : Nat → gS → Option (Int32 × gS)
  | 0, _ => none
  | n + 1, σ =>
    ob2 (F_X12_another_0 1 4 σ) (fun r84 σ84 => if r84 = 0 then (ob2 (F_X12_eats_0 59 σ84) (fun r102 σ102 => if r102 = 0 then (some (0, σ102)) else (ob2 (F_X12_readsStencil_0 σ102) (fun r109 σ109 => if r109 = 0 then (some (0, σ109)) else (F_X12_reads_117 fu σ109))))) else (ob2 (F_X12_readsDye_0 σ84) (fun r91 σ91 => if r91 = 0 then (some (0, σ91)) else (F_X12_reads_81 n σ91))))
def F_X12_reads_44 : Nat → gS → Option (Int32 × gS)
  | 0, _ => none
  | n + 1, σ =>
    ob2 (F_X12_another_0 0 8 σ) (fun r48 σ48 => if r48 = 0 then (ob2 (F_X12_eats_0 59 σ48) (fun r66 σ66 => if r66 = 0 then (some (0, σ66)) else (ob2 (F_X12_readsDye_0 σ66) (fun r73 σ73 => if r73 = 0 then (some (0, σ73)) else (F_X12_reads_81 fu σ73))))) else (ob2 (F_X12_readsSquare_0 σ48) (fun r55 σ55 => if r55 = 0 then (some (0, σ55)) else (F_X12_reads_44 n σ55))))
def F_X12_reads_2 : Nat → Int32 → gS → Option (Int32 × gS)
  | 0, _, _ => none
  | n + 1, x1, σ =>
    if 26 ≤ x1 then (bd (sI σ 82 15 0) (fun σ23 => ob2 (F_X12_eats_0 119 σ23) (fun r29 σ29 => if r29 = 0 then (some (0, σ29)) else (ob2 (F_X12_readsSquare_0 σ29) (fun r36 σ36 => if r36 = 0 then (some (0, σ36)) else (F_X12_reads_44 fu σ36)))))) else (ck (inR x1 26) (bd (sI σ 84 (Int32.toNatClampNeg x1) 0) (fun σ14 => bd (x1 + 1) (fun x15 => F_X12_reads_2 n x15 σ14))))
def F_X12_reads_0 (σ : gS) : Option (Int32 × gS) :=
    F_X12_reads_2 fu 0 σ
def F_X12_cloth_39 : Nat → Int32 → gS → Option (Int32 × gS)
  | 0, _, _ => none
  | n + 1, x2, σ =>
    if 32 ≤ x2 then (ob (F_X12_copies_0 85 86 0 32 8 σ) (fun σ71 => bd (sI σ71 82 5 0) (fun σ76 => bd (sI σ76 82 7 0) (fun σ81 => some (σ81.1 83 0, σ81))))) else (ck (inR x2 40) (bd (sI σ 86 (Int32.toNatClampNeg x2) 0) (fun σ51 => bd (x2 + 1) (fun x52 => F_X12_cloth_39 n x52 σ51))))
def F_X12_cloth_0 (σ : gS) : Option (Int32 × gS) :=
    ob2 (F_X12_reads_0 σ) (fun r1 σ1 => bd (sI σ1 82 11 0) (fun σ7 => if r1 = 0 then (some ((-100) - (σ7.1 82 15), σ7)) else (ob (F_X12_copies_0 84 83 0 0 26 σ7) (fun σ34 => F_X12_cloth_39 fu 0 σ34))))
def F_X12_isSquare_0 (x1 : Int32) (σ : gS) : Option Int32 :=
    ck (nb (F_X12_in_0 (Int32.toInt64 x1) 0 (Int32.toInt64 ((σ.1 83 0) - 1)))) (some (F_X12_in_0 (Int32.toInt64 x1) 0 (Int32.toInt64 ((σ.1 83 0) - 1))))
def F_X12_isDye_0 (x1 : Int32) (σ : gS) : Option Int32 :=
    ck (nb (F_X12_in_0 (Int32.toInt64 x1) 0 (Int32.toInt64 ((σ.1 83 1) - 1)))) (some (F_X12_in_0 (Int32.toInt64 x1) 0 (Int32.toInt64 ((σ.1 83 1) - 1))))
def F_X12_hueOf_84 (g44 : Int32 → Int32 → Int32 → Int32 → gS → Option Int32) (c0 : Nat) (x1 : Int32) (x2 : Int32) (x4 : Int32) (y0 : Int32) (y1 : Int32) (σ : gS) : Option Int32 :=
    bd (y1 ||| y0) (fun x85 => bd (x4 + 1) (fun x86 => g44 x1 x2 x85 x86 σ))
def F_X12_hueOf_83 (g44 : Int32 → Int32 → Int32 → Int32 → gS → Option Int32) (c0 : Nat) (x1 : Int32) (x2 : Int32) (x4 : Int32) (y0 : Int32) (σ : gS) : Option Int32 :=
    F_X12_hueOf_84 g44 c0 x1 x2 x4 0 y0 σ
def F_X12_hueOf_44 (c0 : Nat) : Nat → Int32 → Int32 → Int32 → Int32 → gS → Option Int32
  | 0, _, _, _, _, _ => none
  | n + 1, x1, x2, x3, x4, σ =>
    if 3 ≤ x4 then (some x3) else (ck (inR ((0 + (3 * x1)) + x4) 40) (bd (σ.1 c0 (Int32.toNatClampNeg ((0 + (3 * x1)) + x4))) (fun x60 => if x60 ≤ 0 then (F_X12_hueOf_83 (F_X12_hueOf_44 c0 n) c0 x1 x2 x4 x3 σ) else (if (2 * x60) < x2 then (F_X12_hueOf_83 (F_X12_hueOf_44 c0 n) c0 x1 x2 x4 x3 σ) else (F_X12_hueOf_84 (F_X12_hueOf_44 c0 n) c0 x1 x2 x4 ((1 : Int32) <<< (x4 &&& (31 : Int32))) x3 σ)))))
def F_X12_hueOf_32 (g4 : Int32 → Int32 → Int32 → gS → Option Int32) (c0 : Nat) (x1 : Int32) (x3 : Int32) (y0 : Int32) (σ : gS) : Option Int32 :=
    bd (x3 + 1) (fun x33 => g4 x1 y0 x33 σ)
def F_X12_hueOf_4 (c0 : Nat) : Nat → Int32 → Int32 → Int32 → gS → Option Int32
  | 0, _, _, _, _ => none
  | n + 1, x1, x2, x3, σ =>
    if 3 ≤ x3 then (F_X12_hueOf_44 c0 fu x1 x2 0 0 σ) else (ck (inR ((0 + (3 * x1)) + x3) 40) (bd (σ.1 c0 (Int32.toNatClampNeg ((0 + (3 * x1)) + x3))) (fun x18 => if x18 ≤ x2 then (F_X12_hueOf_32 (F_X12_hueOf_4 c0 n) c0 x1 x3 x2 σ) else (F_X12_hueOf_32 (F_X12_hueOf_4 c0 n) c0 x1 x3 x18 σ))))
def F_X12_hueOf_0 (c0 : Nat) (x1 : Int32) (σ : gS) : Option Int32 :=
    F_X12_hueOf_4 c0 fu x1 0 0 σ
def F_X12_darkOf_0 (c0 : Nat) (x1 : Int32) (σ : gS) : Option Int32 :=
    ck (inR (0 + (3 * x1)) 40) (ck (inR ((0 + (3 * x1)) + 1) 40) (ck (inR ((0 + (3 * x1)) + 2) 40) (some (((σ.1 c0 (Int32.toNatClampNeg (0 + (3 * x1)))) + (σ.1 c0 (Int32.toNatClampNeg ((0 + (3 * x1)) + 1)))) + (σ.1 c0 (Int32.toNatClampNeg ((0 + (3 * x1)) + 2)))))))
def F_X12_isRight_0 (c0 : Nat) (x1 : Int32) (σ : gS) : Option Int32 :=
    ob (F_X12_hueOf_0 c0 x1 σ) (fun r2 => ck (inR (32 + x1) 40) (if r2 = (σ.1 c0 (Int32.toNatClampNeg (32 + x1))) then (some 1) else (some 0)))
def F_X12_rightOn_30 (g4 : Int32 → Int32 → gS → Option Int32) (c1 : Nat) (x3 : Int32) (y0 : Int32) (y1 : Int32) (σ : gS) : Option Int32 :=
    bd (y1 ||| y0) (fun x31 => bd (x3 + 1) (fun x32 => g4 x31 x32 σ))
def F_X12_rightOn_4 (c1 : Nat) : Nat → Int32 → Int32 → gS → Option Int32
  | 0, _, _, _ => none
  | n + 1, x2, x3, σ =>
    if (σ.1 83 0) ≤ x3 then (some x2) else (ob (F_X12_isRight_0 c1 x3 σ) (fun r17 => if r17 = 0 then (F_X12_rightOn_30 (F_X12_rightOn_4 c1 n) c1 x3 0 x2 σ) else (F_X12_rightOn_30 (F_X12_rightOn_4 c1 n) c1 x3 ((1 : Int32) <<< (x3 &&& (31 : Int32))) x2 σ)))
def F_X12_rightOn_0 (c1 : Nat) (σ : gS) : Option Int32 :=
    F_X12_rightOn_4 c1 fu 0 0 σ
def F_X12_darkAll_4 (c1 : Nat) : Nat → Int32 → Int32 → gS → Option Int32
  | 0, _, _, _ => none
  | n + 1, x2, x3, σ =>
    if (σ.1 83 0) ≤ x3 then (some x2) else (ob (F_X12_darkOf_0 c1 x3 σ) (fun r17 => bd (x2 + r17) (fun x21 => bd (x3 + 1) (fun x22 => F_X12_darkAll_4 c1 n x21 x22 σ))))
def F_X12_darkAll_0 (c1 : Nat) (σ : gS) : Option Int32 :=
    F_X12_darkAll_4 c1 fu 0 0 σ
def F_X12_takenBy_73 : Option Int32 :=
    some 0
def F_X12_takenBy_0 (x0 : Int32) (x1 : Int32) (x2 : Int32) : Option Int32 :=
    if x0 = 2 then (some (F_X12_less_0 x2 2)) else (if x0 = 3 then (if x2 = 0 then (some 0) else (some (x2 + 1))) else (if x0 = 4 then (if x2 = 0 then (some 0) else (some ((x2 / 2) + 1))) else (if x0 = 5 then (if x2 = 0 then F_X12_takenBy_73 else (if x1 < 4 then (some ((x2 / 2) + 1)) else F_X12_takenBy_73)) else (some x2))))
def F_X12_takenOn_0 (c1 : Nat) (x2 : Int32) (x3 : Int32) (x4 : Int32) (σ : gS) : Option Int32 :=
    ck (inR ((0 + (3 * x2)) + x4) 40) (bd (σ.1 c1 (Int32.toNatClampNeg ((0 + (3 * x2)) + x4))) (fun x10 => ck (inR (24 + x2) 40) (if (σ.1 c1 (Int32.toNatClampNeg (24 + x2))) ≤ 0 then (ck (inR (3 + x2) 26) (ck (inR ((11 + (3 * x3)) + x4) 26) (ob (F_X12_takenBy_0 (σ.1 83 (Int32.toNatClampNeg (3 + x2))) x10 (σ.1 83 (Int32.toNatClampNeg ((11 + (3 * x3)) + x4)))) (fun r54 => some (F_X12_less_0 (9 - x10) r54))))) else (some 0))))
def F_X12_cracksOn_0 (x0 : Int32) : Int32 :=
    if x0 = 3 then 2 else (if x0 = 4 then 0 else 1)
def F_X12_bathes_50 (c1 : Nat) : Nat → Int32 → Int32 → Int32 → gS → Option gS
  | 0, _, _, _, _ => none
  | n + 1, x2, x3, x4, σ =>
    if 3 ≤ x4 then (some σ) else (ck (inR ((0 + (3 * x2)) + x4) 40) (ob (F_X12_takenOn_0 c1 x2 x3 x4 σ) (fun r73 => ck (inR ((0 + (3 * x2)) + x4) 40) (bd (sI σ c1 (Int32.toNatClampNeg ((0 + (3 * x2)) + x4)) ((σ.1 c1 (Int32.toNatClampNeg ((0 + (3 * x2)) + x4))) + r73)) (fun σ77 => bd (x4 + 1) (fun x78 => F_X12_bathes_50 c1 n x2 x3 x78 σ77))))))
def F_X12_bathes_45 (c1 : Nat) (y0 : Int32) (y1 : Int32) (σ : gS) : Option gS :=
    ck (inR y1 40) (bd (sI σ c1 (Int32.toNatClampNeg y1) y0) (fun σ45 => some σ45))
def F_X12_bathes_0 (c1 : Nat) (x2 : Int32) (x3 : Int32) (σ : gS) : Option gS :=
    ck (inR (24 + x2) 40) (if (σ.1 c1 (Int32.toNatClampNeg (24 + x2))) ≤ 0 then (F_X12_bathes_50 c1 fu x2 x3 0 σ) else (ck (inR (24 + x2) 40) (ck (inR (3 + x2) 26) (bd ((σ.1 c1 (Int32.toNatClampNeg (24 + x2))) - (F_X12_cracksOn_0 (σ.1 83 (Int32.toNatClampNeg (3 + x2))))) (fun x27 => if 0 ≤ x27 then (F_X12_bathes_45 c1 x27 (24 + x2) σ) else (F_X12_bathes_45 c1 0 (24 + x2) σ))))))
def F_X12_rinses_42 (g2 : Int32 → Int32 → gS → Option gS) (c1 : Nat) (x2 : Int32) (x3 : Int32) (y0 : Int32) (y1 : Int32) (y2 : Int32) (σ : gS) : Option gS :=
    ck (inR y2 40) (bd (sI σ c1 (Int32.toNatClampNeg y2) (y1 - y0)) (fun σ43 => bd (x3 + 1) (fun x44 => g2 x2 x44 σ43)))
def F_X12_rinses_41 (g2 : Int32 → Int32 → gS → Option gS) (c1 : Nat) (x2 : Int32) (x3 : Int32) (y0 : Int32) (y1 : Int32) (σ : gS) : Option gS :=
    F_X12_rinses_42 g2 c1 x2 x3 0 y0 y1 σ
def F_X12_rinses_2 (c1 : Nat) : Nat → Int32 → Int32 → gS → Option gS
  | 0, _, _, _ => none
  | n + 1, x2, x3, σ =>
    if 3 ≤ x3 then (some σ) else (bd ((0 + (3 * x2)) + x3) (fun x14 => ck (inR x14 40) (ck (inR x14 40) (if (σ.1 c1 (Int32.toNatClampNeg x14)) ≤ 0 then (F_X12_rinses_41 (F_X12_rinses_2 c1 n) c1 x2 x3 (σ.1 c1 (Int32.toNatClampNeg x14)) x14 σ) else (ck (inR (24 + x2) 40) (if (σ.1 c1 (Int32.toNatClampNeg (24 + x2))) = 0 then (F_X12_rinses_42 (F_X12_rinses_2 c1 n) c1 x2 x3 1 (σ.1 c1 (Int32.toNatClampNeg x14)) x14 σ) else (F_X12_rinses_41 (F_X12_rinses_2 c1 n) c1 x2 x3 (σ.1 c1 (Int32.toNatClampNeg x14)) x14 σ)))))))
def F_X12_rinses_0 (c1 : Nat) (x2 : Int32) (σ : gS) : Option gS :=
    F_X12_rinses_2 c1 fu x2 0 σ
def F_X12_isDoing_59 (σ : gS) : Option Int32 :=
    some 1
def F_X12_isDoing_0 (x1 : Int64) (σ : gS) : Option Int32 :=
    if (F_X12_in_0 x1 0 (Int32.toInt64 ((σ.1 83 1) - 1))) = 0 then (if (F_X12_in_0 x1 10 (Int32.toInt64 (9 + (σ.1 83 2)))) = 0 then (if (F_X12_in_0 x1 20 21) = 0 then (some 0) else (if (σ.1 83 0) ≤ 0 then (some 0) else (F_X12_isDoing_59 σ))) else (F_X12_isDoing_59 σ)) else (F_X12_isDoing_59 σ)
def F_X12_doesOn_55 (c1 : Nat) (y0 : Int32) (y1 : Int32) (σ : gS) : Option gS :=
    ck (inR y1 40) (bd (sI σ c1 (Int32.toNatClampNeg y1) y0) (fun σ55 => some σ55))
def F_X12_doesOn_0 (c1 : Nat) (x2 : Int32) (x3 : Int32) (σ : gS) : Option gS :=
    if 4 ≤ x3 then (if 20 ≤ x3 then (if x3 = 20 then (ck (inR (24 + x2) 40) (bd (sI σ c1 (Int32.toNatClampNeg (24 + x2)) 0) (fun σ71 => some σ71))) else (ob (F_X12_rinses_0 c1 x2 σ) (fun σ78 => some σ78))) else (ck (inR ((23 + x3) - 10) 26) (if (F_X12_has_0 (σ.1 83 (Int32.toNatClampNeg ((23 + x3) - 10))) x2) = 0 then (ck (inR (24 + x2) 40) (F_X12_doesOn_55 c1 (σ.1 c1 (Int32.toNatClampNeg (24 + x2))) (24 + x2) σ)) else (F_X12_doesOn_55 c1 3 (24 + x2) σ)))) else (ob (F_X12_bathes_0 c1 x2 x3 σ) (fun σ9 => some σ9))
def F_X12_doesAll_2 (c1 : Nat) : Nat → Int32 → Int32 → gS → Option gS
  | 0, _, _, _ => none
  | n + 1, x2, x3, σ =>
    if (σ.1 83 0) ≤ x3 then (some σ) else (ob (F_X12_doesOn_0 c1 x3 x2 σ) (fun σ16 => bd (x3 + 1) (fun x19 => F_X12_doesAll_2 c1 n x2 x19 σ16)))
def F_X12_doesAll_0 (c1 : Nat) (x2 : Int32) (σ : gS) : Option gS :=
    F_X12_doesAll_2 c1 fu x2 0 σ
def F_X12_square_0 (x1 : Int32) (x2 : Int32) (σ : gS) : Option Int32 :=
    ob (F_X12_isSquare_0 x1 σ) (fun r2 => if r2 = 0 then (some (-1)) else (if (F_X12_in_0 (Int32.toInt64 x2) 0 8) = 0 then (some (-1)) else (if x2 = 0 then (ck (inR (3 + x1) 26) (some (σ.1 83 (Int32.toNatClampNeg (3 + x1))))) else (if x2 = 1 then (ck (inR (32 + x1) 40) (some (σ.1 86 (Int32.toNatClampNeg (32 + x1))))) else (if x2 = 2 then (ck (inR (24 + x1) 40) (some (σ.1 86 (Int32.toNatClampNeg (24 + x1))))) else (if x2 = 3 then (ob (F_X12_hueOf_0 86 x1 σ) (fun r94 => some r94)) else (if x2 = 4 then (ob (F_X12_darkOf_0 86 x1 σ) (fun r103 => some r103)) else (if x2 = 5 then (ob (F_X12_isRight_0 86 x1 σ) (fun r112 => if r112 = 0 then (some 0) else (some 1))) else (ck (inR (((0 + (3 * x1)) + x2) - 6) 40) (some (σ.1 86 (Int32.toNatClampNeg (((0 + (3 * x1)) + x2) - 6)))))))))))))
def F_X12_as_74 (x1 : Int32) (y0 : Int32) (σ : gS) : Option Int32 :=
    if y0 = 0 then (some (-12)) else (some x1)
def F_X12_as_69 (x1 : Int32) (σ : gS) : Option Int32 :=
    F_X12_as_74 x1 1 σ
def F_X12_as_73 (x1 : Int32) (σ : gS) : Option Int32 :=
    F_X12_as_74 x1 0 σ
def F_X12_as_59 (x1 : Int32) (x2 : Int32) (x3 : Int32) (σ : gS) : Option Int32 :=
    if x2 = 4 then (if x3 = 5 then (F_X12_as_69 x1 σ) else (F_X12_as_73 x1 σ)) else (F_X12_as_73 x1 σ)
def F_X12_as_0 (x1 : Int32) (x2 : Int32) (σ : gS) : Option Int32 :=
    ob (F_X12_isSquare_0 x1 σ) (fun r2 => if r2 = 0 then (some (-1)) else (if (F_X12_in_0 (Int32.toInt64 x2) 0 5) = 0 then (some (-1)) else (ck (inR (3 + x1) 26) (bd (σ.1 83 (Int32.toNatClampNeg (3 + x1))) (fun x30 => if x2 = 0 then (F_X12_as_69 x1 σ) else (if x2 = x30 then (F_X12_as_69 x1 σ) else (if x2 = 1 then (if (F_X12_in_0 (Int32.toInt64 x30) 2 3) = 0 then (F_X12_as_59 x1 x2 x30 σ) else (F_X12_as_69 x1 σ)) else (F_X12_as_59 x1 x2 x30 σ))))))))
def F_X12_dye_0 (x1 : Int32) (x2 : Int32) (σ : gS) : Option Int32 :=
    ob (F_X12_isDye_0 x1 σ) (fun r2 => if r2 = 0 then (some (-1)) else (if (F_X12_in_0 (Int32.toInt64 x2) 0 2) = 0 then (some (-1)) else (ck (inR ((11 + (3 * x1)) + x2) 26) (some (σ.1 83 (Int32.toNatClampNeg ((11 + (3 * x1)) + x2)))))))
def F_X12_stencil_0 (x1 : Int32) (σ : gS) : Option Int32 :=
    if (F_X12_in_0 (Int32.toInt64 x1) 0 (Int32.toInt64 ((σ.1 83 2) - 1))) = 0 then (some (-1)) else (ck (inR (23 + x1) 26) (some (σ.1 83 (Int32.toNatClampNeg (23 + x1)))))
def F_X12_takes_0 (x1 : Int32) (x2 : Int32) (x3 : Int32) (σ : gS) : Option Int32 :=
    ob (F_X12_isSquare_0 x1 σ) (fun r2 => if r2 = 0 then (some (-1)) else (ob (F_X12_isDye_0 x2 σ) (fun r10 => if r10 = 0 then (some (-1)) else (if (F_X12_in_0 (Int32.toInt64 x3) 0 2) = 0 then (some (-1)) else (ob (F_X12_takenOn_0 86 x1 x2 x3 σ) (fun r36 => some r36))))))
def F_X12_does_73 (x1 : Int32) (σ : gS) : Option (Int32 × gS) :=
    ob (F_X12_copies_0 86 88 0 (32 * (σ.1 82 7)) 32 σ) (fun σ91 => bd (sI σ91 82 7 ((σ91.1 82 7) + 1)) (fun σ101 => bd (sI σ101 82 5 ((σ101.1 82 5) + 1)) (fun σ111 => ob (F_X12_doesAll_0 86 x1 σ111) (fun σ120 => ob (F_X12_rightOn_0 86 σ120) (fun r128 => some (r128, σ120))))))
def F_X12_does_35 : Nat → Int32 → Int32 → gS → Option (Int32 × gS)
  | 0, _, _, _ => none
  | n + 1, x1, x2, σ =>
    if 736 ≤ x2 then (bd (sI σ 82 7 ((σ.1 82 7) - 1)) (fun σ70 => F_X12_does_73 x1 σ70)) else (ck (inR (x2 + 32) 768) (ck (inR x2 768) (bd (sI σ 88 (Int32.toNatClampNeg x2) (σ.1 88 (Int32.toNatClampNeg (x2 + 32)))) (fun σ56 => bd (x2 + 1) (fun x57 => F_X12_does_35 n x1 x57 σ56)))))
def F_X12_does_0 (x1 : Int32) (σ : gS) : Option (Int32 × gS) :=
    ob (F_X12_isDoing_0 (Int32.toInt64 x1) σ) (fun r3 => if r3 = 0 then (some ((-1), σ)) else (if (σ.1 82 5) = 9999 then (some ((-3), σ)) else (if (σ.1 82 7) = 24 then (F_X12_does_35 fu x1 0 σ) else (F_X12_does_73 x1 σ))))
def F_X12_undo_0 (σ : gS) : Option (Int32 × gS) :=
    if (σ.1 82 7) = 0 then (some ((-4), σ)) else (bd (sI σ 82 7 ((σ.1 82 7) - 1)) (fun σ17 => bd (sI σ17 82 5 ((σ17.1 82 5) - 1)) (fun σ27 => ob (F_X12_copies_0 88 86 (32 * (σ27.1 82 7)) 0 32 σ27) (fun σ48 => some (σ48.1 82 7, σ48)))))
def F_X12_wish_0 (x1 : Int32) (x2 : Int32) (σ : gS) : Option (Int32 × gS) :=
    ob (F_X12_isSquare_0 x1 σ) (fun r2 => if r2 = 0 then (some ((-1), σ)) else (if (F_X12_in_0 (Int32.toInt64 x2) 0 7) = 0 then (some ((-1), σ)) else (ck (inR (32 + x1) 40) (bd (σ.1 86 (Int32.toNatClampNeg (32 + x1))) (fun x31 => ck (inR (32 + x1) 40) (bd (sI σ 86 (Int32.toNatClampNeg (32 + x1)) x2) (fun σ41 => some (x31, σ41))))))))
def F_X12_image_0 (x1 : Int32) (σ : gS) : Option (Int32 × gS) :=
    if (F_X12_in_0 (Int32.toInt64 x1) 0 1) = 0 then (some ((-1), σ)) else (if (σ.1 83 0) = 0 then (some ((-2), σ)) else (ob (F_X12_copies_0 83 89 0 (67 * x1) 26 σ) (fun σ39 => ob (F_X12_copies_0 86 89 0 ((67 * x1) + 26) 40 σ39) (fun σ60 => ck (inR (((67 * x1) + 26) + 40) 134) (bd (sI σ60 89 (Int32.toNatClampNeg (((67 * x1) + 26) + 40)) (σ60.1 82 5)) (fun σ81 => ck (inR x1 2) (bd (sI σ81 90 (Int32.toNatClampNeg x1) (vp_nar .boolean 1)) (fun σ88 => some (σ88.1 82 5, σ88)))))))))
def F_X12_restore_0 (x1 : Int32) (σ : gS) : Option (Int32 × gS) :=
    if (F_X12_in_0 (Int32.toInt64 x1) 0 1) = 0 then (some ((-1), σ)) else (ck (inR x1 2) (if (σ.1 90 (Int32.toNatClampNeg x1)) = 0 then (some ((-2), σ)) else (ob (F_X12_copies_0 89 83 (67 * x1) 0 26 σ) (fun σ39 => ob (F_X12_copies_0 89 86 ((67 * x1) + 26) 0 40 σ39) (fun σ60 => ck (inR (((67 * x1) + 26) + 40) 134) (bd (sI σ60 82 5 (σ60.1 89 (Int32.toNatClampNeg (((67 * x1) + 26) + 40)))) (fun σ79 => bd (sI σ79 82 7 0) (fun σ84 => some (σ84.1 82 5, σ84)))))))))
def F_X12_laysAside_0 (σ : gS) : Option gS :=
    ob (F_X12_copies_0 86 87 0 0 40 σ) (fun σ12 => some σ12)
def F_X12_doingsThere_0 (σ : gS) : Option Int32 :=
    some (((σ.1 83 1) + (σ.1 83 2)) + 2)
def F_X12_doingOf_0 (x1 : Int32) (σ : gS) : Option Int32 :=
    bd (σ.1 83 1) (fun x6 => bd (σ.1 83 2) (fun x13 => if x6 ≤ x1 then (if (x6 + x13) ≤ x1 then (some (((20 + x1) - x6) - x13)) else (some ((10 + x1) - x6))) else (some x1)))
def F_X12_plan_194 : Nat → Int32 → Int32 → Int32 → Int32 → gS → Option (Int32 × gS)
  | 0, _, _, _, _, _ => none
  | n + 1, x2, x3, x5, x8, σ =>
    if x8 ≤ x2 then (ck (¬ x3 = 0) (ob (F_X12_doingOf_0 (x5 - x5 / x3 * x3) σ) (fun r217 => some (r217, σ)))) else (ck (¬ x3 = 0) (bd (x5 / x3) (fun x204 => bd (x8 + (-1)) (fun x206 => F_X12_plan_194 n x2 x3 x204 x206 σ))))
def F_X12_plan_143 (g52 : Int32 → Int32 → Int32 → Int32 → Int32 → Int32 → Int32 → Int32 → gS → Option (Int32 × gS)) (g61 : Int32 → Int32 → Int32 → Int32 → Int32 → Int32 → Int32 → Int32 → Int32 → gS → Option (Int32 × gS)) (x1 : Int32) (x2 : Int32) (x3 : Int32) (x4 : Int32) (x5 : Int32) (x6 : Int32) (x7 : Int32) (x8 : Int32) (x9 : Int32) (σ : gS) : Option (Int32 × gS) :=
    bd (x9 + 1) (fun x143 => g61 x1 x2 x3 x4 x5 x6 x7 x8 x143 σ)
def F_X12_plan_78 (g52 : Int32 → Int32 → Int32 → Int32 → Int32 → Int32 → Int32 → Int32 → gS → Option (Int32 × gS)) (g61 : Int32 → Int32 → Int32 → Int32 → Int32 → Int32 → Int32 → Int32 → Int32 → gS → Option (Int32 × gS)) : Nat → Int32 → Int32 → Int32 → Int32 → Int32 → Int32 → Int32 → Int32 → Int32 → Int32 → gS → Option (Int32 × gS)
  | 0, _, _, _, _, _, _, _, _, _, _, _ => none
  | n + 1, x1, x2, x3, x4, x5, x6, x7, x8, x9, x10, σ =>
    if x10 ≤ 0 then (ob (F_X12_rightOn_0 87 σ) (fun r116 => ob (F_X12_bits_0 r116) (fun r119 => if r119 ≤ x4 then (F_X12_plan_143 g52 g61 x1 x2 x3 x4 x5 x6 x7 x8 x9 σ) else (F_X12_plan_143 g52 g61 x1 x2 x3 r119 x9 x8 x7 x8 x9 σ)))) else (ck (¬ x10 = 0) (ck (¬ x3 = 0) (ob (F_X12_doingOf_0 ((x9 / x10) - (x9 / x10) / x3 * x3) σ) (fun r96 => ob (F_X12_doesAll_0 87 r96 σ) (fun σ99 => ck (¬ x3 = 0) (bd (x10 / x3) (fun x106 => F_X12_plan_78 g52 g61 n x1 x2 x3 x4 x5 x6 x7 x8 x9 x106 σ99)))))))
def F_X12_plan_61 (g52 : Int32 → Int32 → Int32 → Int32 → Int32 → Int32 → Int32 → Int32 → gS → Option (Int32 × gS)) : Nat → Int32 → Int32 → Int32 → Int32 → Int32 → Int32 → Int32 → Int32 → Int32 → gS → Option (Int32 × gS)
  | 0, _, _, _, _, _, _, _, _, _, _ => none
  | n + 1, x1, x2, x3, x4, x5, x6, x7, x8, x9, σ =>
    if x7 ≤ x9 then (bd (x7 * x3) (fun x153 => bd (x8 + 1) (fun x155 => g52 x1 x2 x3 x4 x5 x6 x153 x155 σ))) else (ob (F_X12_laysAside_0 σ) (fun σ69 => ck (¬ x3 = 0) (bd (x7 / x3) (fun x76 => F_X12_plan_78 g52 (F_X12_plan_61 g52 n) fu x1 x2 x3 x4 x5 x6 x7 x8 x9 x76 σ69))))
def F_X12_plan_52 : Nat → Int32 → Int32 → Int32 → Int32 → Int32 → Int32 → Int32 → Int32 → gS → Option (Int32 × gS)
  | 0, _, _, _, _, _, _, _, _, _ => none
  | n + 1, x1, x2, x3, x4, x5, x6, x7, x8, σ =>
    if x1 < x8 then (if 0 ≤ x2 then (if x2 < x6 then (bd (x6 - 1) (fun x192 => F_X12_plan_194 fu x2 x3 x5 x192 σ)) else (some ((-4), σ))) else (if x2 = (-2) then (some (x4, σ)) else (some (x6, σ)))) else (F_X12_plan_61 (F_X12_plan_52 n) fu x1 x2 x3 x4 x5 x6 x7 x8 0 σ)
def F_X12_plan_0 (x1 : Int32) (x2 : Int32) (σ : gS) : Option (Int32 × gS) :=
    if (F_X12_in_0 (Int32.toInt64 x1) 0 4) = 0 then (some ((-1), σ)) else (if (-2) ≤ x2 then (if (σ.1 83 0) = 0 then (some ((-2), σ)) else (ob (F_X12_doingsThere_0 σ) (fun r33 => F_X12_plan_52 fu x1 x2 r33 (-1) 0 0 1 0 σ))) else (some ((-1), σ)))
def F_X12_whitens_2 : Nat → Int32 → Int32 → gS → Option gS
  | 0, _, _, _ => none
  | n + 1, x1, x2, σ =>
    if 3 ≤ x2 then (ck (inR (24 + x1) 40) (bd (sI σ 87 (Int32.toNatClampNeg (24 + x1)) 0) (fun σ35 => some σ35))) else (ck (inR ((0 + (3 * x1)) + x2) 40) (bd (sI σ 87 (Int32.toNatClampNeg ((0 + (3 * x1)) + x2)) 0) (fun σ19 => bd (x2 + 1) (fun x20 => F_X12_whitens_2 n x1 x20 σ19))))
def F_X12_whitens_0 (x1 : Int32) (σ : gS) : Option gS :=
    F_X12_whitens_2 fu x1 0 σ
def F_X12_power_4 : Nat → Int32 → Int32 → Int32 → Int32 → Option Int32
  | 0, _, _, _, _ => none
  | n + 1, x0, x1, x2, x3 =>
    if x1 ≤ x3 then (some x2) else (bd (x2 * x0) (fun x12 => bd (x3 + 1) (fun x13 => F_X12_power_4 n x0 x1 x12 x13)))
def F_X12_power_0 (x0 : Int32) (x1 : Int32) : Option Int32 :=
    F_X12_power_4 fu x0 x1 1 0
def F_X12_shadeOf_10 : Nat → Int32 → Int32 → Int32 → gS → Option (Int32 × gS)
  | 0, _, _, _, _ => none
  | n + 1, x1, x2, x4, σ =>
    if x4 < 0 then (bd (0 + (3 * x1)) (fun x55 => ck (inR x55 40) (ck (inR (x55 + 1) 40) (ck (inR (x55 + 2) 40) (some (((100 * (σ.1 87 (Int32.toNatClampNeg x55))) + (10 * (σ.1 87 (Int32.toNatClampNeg (x55 + 1))))) + (σ.1 87 (Int32.toNatClampNeg (x55 + 2))), σ)))))) else (ob (F_X12_power_0 (σ.1 83 1) x4) (fun r30 => ck (¬ r30 = 0) (ck (¬ (σ.1 83 1) = 0) (ob (F_X12_bathes_0 87 x1 ((x2 / r30) - (x2 / r30) / (σ.1 83 1) * (σ.1 83 1)) σ) (fun σ41 => bd (x4 + (-1)) (fun x44 => F_X12_shadeOf_10 n x1 x2 x44 σ41))))))
def F_X12_shadeOf_0 (x1 : Int32) (x2 : Int32) (x3 : Int32) (σ : gS) : Option (Int32 × gS) :=
    ob (F_X12_whitens_0 x1 σ) (fun σ2 => bd (x3 - 1) (fun x8 => F_X12_shadeOf_10 fu x1 x2 x8 σ2))
def F_X12_rows_165 : Nat → Int32 → Int32 → Int32 → gS → Option (Int32 × gS)
  | 0, _, _, _, _ => none
  | n + 1, x6, x9, x10, σ =>
    if x10 ≤ x6 then (ck (¬ (σ.1 83 1) = 0) (some (x9 - x9 / (σ.1 83 1) * (σ.1 83 1), σ))) else (ck (¬ (σ.1 83 1) = 0) (bd (x9 / (σ.1 83 1)) (fun x181 => bd (x10 + (-1)) (fun x183 => F_X12_rows_165 n x6 x181 x183 σ))))
def F_X12_rows_128 (g102 : Int32 → Int32 → Int32 → Int32 → Int32 → Int32 → Int32 → gS → Option (Int32 × gS)) (x1 : Int32) (x5 : Int32) (x6 : Int32) (x7 : Int32) (x8 : Int32) (x9 : Int32) (x10 : Int32) (σ : gS) : Option (Int32 × gS) :=
    bd (x10 + (-1)) (fun x128 => g102 x1 x5 x6 x7 x8 x9 x128 σ)
def F_X12_rows_102 : Nat → Int32 → Int32 → Int32 → Int32 → Int32 → Int32 → Int32 → gS → Option (Int32 × gS)
  | 0, _, _, _, _, _, _, _, _ => none
  | n + 1, x1, x5, x6, x7, x8, x9, x10, σ =>
    if x10 < 0 then (if 0 ≤ x6 then (if x9 = (-4) then (some ((-4), σ)) else (if x6 < x5 then (bd (x5 - 1) (fun x163 => F_X12_rows_165 fu x6 x9 x163 σ)) else (some ((-4), σ)))) else (some (x8, σ))) else (ob2 (F_X12_shadeOf_0 x1 x10 x5 σ) (fun r113 σ113 => if r113 = x7 then (bd (x8 + 1) (fun x121 => F_X12_rows_128 (F_X12_rows_102 n) x1 x5 x6 x7 x121 x10 x10 σ113)) else (F_X12_rows_128 (F_X12_rows_102 n) x1 x5 x6 x7 x8 x9 x10 σ113)))
def F_X12_rows_0 (x1 : Int32) (x2 : Int32) (x3 : Int32) (x4 : Int32) (x5 : Int32) (x6 : Int32) (σ : gS) : Option (Int32 × gS) :=
    ob (F_X12_isSquare_0 x1 σ) (fun r2 => if r2 = 0 then (some ((-1), σ)) else (if (F_X12_in_0 (Int32.toInt64 x2) 0 9) = 0 then (some ((-1), σ)) else (if (F_X12_in_0 (Int32.toInt64 x3) 0 9) = 0 then (some ((-1), σ)) else (if (F_X12_in_0 (Int32.toInt64 x4) 0 9) = 0 then (some ((-1), σ)) else (if (F_X12_in_0 (Int32.toInt64 x5) 0 5) = 0 then (some ((-1), σ)) else (if (-1) ≤ x6 then (bd (((100 * x2) + (10 * x3)) + x4) (fun x78 => ob (F_X12_power_0 (σ.1 83 1) x5) (fun r95 => bd (r95 - 1) (fun x100 => F_X12_rows_102 fu x1 x5 x6 x78 0 (-4) x100 σ)))) else (some ((-1), σ))))))))
def F_X12_shades_91 (g60 : Int32 → Int32 → Int32 → Int32 → gS → Option (Int32 × gS)) (x1 : Int32) (x2 : Int32) (x4 : Int32) (x5 : Int32) (y0 : Int32) (y1 : Int32) (σ : gS) : Option (Int32 × gS) :=
    bd (y1 + y0) (fun x92 => ck (inR x5 1000) (bd (sI σ 95 (Int32.toNatClampNeg x5) (vp_nar .boolean 1)) (fun σ100 => bd (x4 + (-1)) (fun x101 => g60 x1 x2 x92 x101 σ100))))
def F_X12_shades_60 : Nat → Int32 → Int32 → Int32 → Int32 → gS → Option (Int32 × gS)
  | 0, _, _, _, _, _ => none
  | n + 1, x1, x2, x3, x4, σ =>
    if x4 < 0 then (some (x3, σ)) else (ob2 (F_X12_shadeOf_0 x1 x4 x2 σ) (fun r70 σ70 => ck (inR r70 1000) (if (σ70.1 95 (Int32.toNatClampNeg r70)) = 0 then (F_X12_shades_91 (F_X12_shades_60 n) x1 x2 x4 r70 1 x3 σ70) else (F_X12_shades_91 (F_X12_shades_60 n) x1 x2 x4 r70 0 x3 σ70))))
def F_X12_shades_24 : Nat → Int32 → Int32 → Int32 → gS → Option (Int32 × gS)
  | 0, _, _, _, _ => none
  | n + 1, x1, x2, x3, σ =>
    if 1000 ≤ x3 then (ob (F_X12_power_0 (σ.1 83 1) x2) (fun r53 => bd (r53 - 1) (fun x58 => F_X12_shades_60 fu x1 x2 0 x58 σ))) else (ck (inR x3 1000) (bd (sI σ 95 (Int32.toNatClampNeg x3) (vp_nar .boolean 0)) (fun σ37 => bd (x3 + 1) (fun x38 => F_X12_shades_24 n x1 x2 x38 σ37))))
def F_X12_shades_0 (x1 : Int32) (x2 : Int32) (σ : gS) : Option (Int32 × gS) :=
    ob (F_X12_isSquare_0 x1 σ) (fun r2 => if r2 = 0 then (some ((-1), σ)) else (if (F_X12_in_0 (Int32.toInt64 x2) 0 5) = 0 then (some ((-1), σ)) else (F_X12_shades_24 fu x1 x2 0 σ)))
def F_X12_cracks_391 (x9 : Int64) (y0 : Int64) (σ : gS) : Option (Int32 × gS) :=
    ck (¬ x9 = 0) (some (Int64.toInt32 (y0 / x9), σ))
def F_X12_cracks_354 : Nat → Int32 → Int64 → Int64 → Int64 → Int64 → gS → Option (Int32 × gS)
  | 0, _, _, _, _, _, _ => none
  | n + 1, x4, x5, x7, x9, x11, σ =>
    if (lg_cmp x11 0) = 0 then (if x4 = 0 then (F_X12_cracks_391 x9 x7 σ) else (F_X12_cracks_391 x9 x5 σ)) else (ck (¬ x11 = 0) (bd (x9 - x9 / x11 * x11) (fun x366 => F_X12_cracks_354 n x4 x5 x7 x11 x366 σ)))
def F_X12_cracks_321 : Nat → Int32 → Int64 → Int64 → Int32 → gS → Option (Int32 × gS)
  | 0, _, _, _, _, _ => none
  | n + 1, x4, x5, x7, x9, σ =>
    if 9 ≤ x9 then (F_X12_cracks_354 fu x4 x5 x7 x7 x5 σ) else (ck (inR x9 10) (bd (x7 + (σ.2 96 (Int32.toNatClampNeg x9))) (fun x338 => bd (x9 + 1) (fun x340 => F_X12_cracks_321 n x4 x5 x338 x340 σ))))
def F_X12_cracks_306 (g88 : Int32 → Int32 → Int32 → Int32 → Int64 → Int32 → gS → Option (Int32 × gS)) (x1 : Int32) (x2 : Int32) (x3 : Int32) (x4 : Int32) (x7 : Int32) (y0 : Int64) (y1 : Int64) (σ : gS) : Option (Int32 × gS) :=
    bd (y1 * y0) (fun x307 => bd (x7 + 1) (fun x309 => g88 x1 x2 x3 x4 x307 x309 σ))
def F_X12_cracks_276 (g88 : Int32 → Int32 → Int32 → Int32 → Int64 → Int32 → gS → Option (Int32 × gS)) (g212 : Int32 → Int32 → Int32 → Int32 → Int64 → Int32 → Int32 → Int32 → Int32 → Int64 → Int64 → Int32 → gS → Option (Int32 × gS)) (x1 : Int32) (x2 : Int32) (x3 : Int32) (x4 : Int32) (x5 : Int64) (x7 : Int32) (x8 : Int32) (x9 : Int32) (x10 : Int32) (x11 : Int64) (x13 : Int64) (x15 : Int32) (x16 : Int64) (y0 : Int32) (y1 : Int32) (σ : gS) : Option (Int32 × gS) :=
    ck (inR (y1 + y0) 10) (ck (inR (y1 + y0) 10) (bd (sJ σ 96 (Int32.toNatClampNeg (y1 + y0)) ((σ.2 96 (Int32.toNatClampNeg (y1 + y0))) + (x16 * x11))) (fun σ285 => bd (x15 + (-1)) (fun x286 => g212 x1 x2 x3 x4 x5 x7 x8 x9 x10 x11 x13 x286 σ285))))
def F_X12_cracks_250 (g88 : Int32 → Int32 → Int32 → Int32 → Int64 → Int32 → gS → Option (Int32 × gS)) (g212 : Int32 → Int32 → Int32 → Int32 → Int64 → Int32 → Int32 → Int32 → Int32 → Int64 → Int64 → Int32 → gS → Option (Int32 × gS)) (x1 : Int32) (x2 : Int32) (x3 : Int32) (x4 : Int32) (x5 : Int64) (x7 : Int32) (x8 : Int32) (x9 : Int32) (x10 : Int32) (x11 : Int64) (x13 : Int64) (x15 : Int32) (x16 : Int64) (y0 : Int32) (y1 : Int32) (σ : gS) : Option (Int32 × gS) :=
    ck (inR (y1 + y0) 10) (ck (inR (y1 + y0) 10) (bd (sJ σ 96 (Int32.toNatClampNeg (y1 + y0)) ((σ.2 96 (Int32.toNatClampNeg (y1 + y0))) + (x16 * x13))) (fun σ259 => if x10 = 0 then (F_X12_cracks_276 g88 g212 x1 x2 x3 x4 x5 x7 x8 x9 x10 x11 x13 x15 x16 0 x15 σ259) else (F_X12_cracks_276 g88 g212 x1 x2 x3 x4 x5 x7 x8 x9 x10 x11 x13 x15 x16 1 x15 σ259))))
def F_X12_cracks_212 (g88 : Int32 → Int32 → Int32 → Int32 → Int64 → Int32 → gS → Option (Int32 × gS)) : Nat → Int32 → Int32 → Int32 → Int32 → Int64 → Int32 → Int32 → Int32 → Int32 → Int64 → Int64 → Int32 → gS → Option (Int32 × gS)
  | 0, _, _, _, _, _, _, _, _, _, _, _, _, _ => none
  | n + 1, x1, x2, x3, x4, x5, x7, x8, x9, x10, x11, x13, x15, σ =>
    if x15 < 0 then (if x8 = 0 then (F_X12_cracks_306 g88 x1 x2 x3 x4 x7 1 x5 σ) else (F_X12_cracks_306 g88 x1 x2 x3 x4 x7 10 x5 σ)) else (ck (inR x15 10) (bd (σ.2 96 (Int32.toNatClampNeg x15)) (fun x224 => ck (inR x15 10) (bd (sJ σ 96 (Int32.toNatClampNeg x15) 0) (fun σ233 => if x9 = 0 then (F_X12_cracks_250 g88 (F_X12_cracks_212 g88 n) x1 x2 x3 x4 x5 x7 x8 x9 x10 x11 x13 x15 x224 0 x15 σ233) else (F_X12_cracks_250 g88 (F_X12_cracks_212 g88 n) x1 x2 x3 x4 x5 x7 x8 x9 x10 x11 x13 x15 x224 1 x15 σ233))))))
def F_X12_cracks_206 (g88 : Int32 → Int32 → Int32 → Int32 → Int64 → Int32 → gS → Option (Int32 × gS)) (x1 : Int32) (x2 : Int32) (x3 : Int32) (x4 : Int32) (x5 : Int64) (x7 : Int32) (x8 : Int32) (x9 : Int32) (x10 : Int32) (x11 : Int64) (y0 : Int64) (σ : gS) : Option (Int32 × gS) :=
    F_X12_cracks_212 g88 fu x1 x2 x3 x4 x5 x7 x8 x9 x10 x11 y0 8 σ
def F_X12_cracks_190 (g88 : Int32 → Int32 → Int32 → Int32 → Int64 → Int32 → gS → Option (Int32 × gS)) (x1 : Int32) (x2 : Int32) (x3 : Int32) (x4 : Int32) (x5 : Int64) (x7 : Int32) (x8 : Int32) (x9 : Int32) (x10 : Int32) (y0 : Int64) (σ : gS) : Option (Int32 × gS) :=
    if x8 = 0 then (F_X12_cracks_206 g88 x1 x2 x3 x4 x5 x7 x8 x9 x10 y0 1 σ) else (F_X12_cracks_206 g88 x1 x2 x3 x4 x5 x7 x8 x9 x10 y0 (Int32.toInt64 (10 - x3)) σ)
def F_X12_cracks_168 (g88 : Int32 → Int32 → Int32 → Int32 → Int64 → Int32 → gS → Option (Int32 × gS)) (x1 : Int32) (x2 : Int32) (x3 : Int32) (x4 : Int32) (x5 : Int64) (x7 : Int32) (x8 : Int32) (x9 : Int32) (σ : gS) : Option (Int32 × gS) :=
    ob (F_X12_isRight_0 87 x7 σ) (fun r174 => if x8 = 0 then (F_X12_cracks_190 g88 x1 x2 x3 x4 x5 x7 x8 x9 r174 0 σ) else (F_X12_cracks_190 g88 x1 x2 x3 x4 x5 x7 x8 x9 r174 (Int32.toInt64 x3) σ))
def F_X12_cracks_117 (g88 : Int32 → Int32 → Int32 → Int32 → Int64 → Int32 → gS → Option (Int32 × gS)) (x1 : Int32) (x2 : Int32) (x3 : Int32) (x4 : Int32) (x5 : Int64) (x7 : Int32) (y0 : Int32) (σ : gS) : Option (Int32 × gS) :=
    ob (F_X12_bathes_0 87 x7 x1 σ) (fun σ127 => ob (F_X12_isRight_0 87 x7 σ127) (fun r136 => ck (inR (24 + x7) 40) (bd (sI σ127 87 (Int32.toNatClampNeg (24 + x7)) 0) (fun σ151 => if y0 = 0 then (F_X12_cracks_168 g88 x1 x2 x3 x4 x5 x7 y0 r136 σ151) else (ob (F_X12_bathes_0 87 x7 x1 σ151) (fun σ165 => F_X12_cracks_168 g88 x1 x2 x3 x4 x5 x7 y0 r136 σ165))))))
def F_X12_cracks_88 : Nat → Int32 → Int32 → Int32 → Int32 → Int64 → Int32 → gS → Option (Int32 × gS)
  | 0, _, _, _, _, _, _, _ => none
  | n + 1, x1, x2, x3, x4, x5, x7, σ =>
    if (σ.1 83 0) ≤ x7 then (F_X12_cracks_321 fu x4 x5 0 x2 σ) else (ck (inR (24 + x7) 40) (if (σ.1 86 (Int32.toNatClampNeg (24 + x7))) ≤ 0 then (F_X12_cracks_117 (F_X12_cracks_88 n) x1 x2 x3 x4 x5 x7 0 σ) else (F_X12_cracks_117 (F_X12_cracks_88 n) x1 x2 x3 x4 x5 x7 1 σ)))
def F_X12_cracks_71 (g48 : Int32 → Int32 → Int32 → Int32 → Int32 → gS → Option (Int32 × gS)) (x1 : Int32) (x2 : Int32) (x3 : Int32) (x4 : Int32) (x5 : Int32) (y0 : Int64) (y1 : Int32) (σ : gS) : Option (Int32 × gS) :=
    ck (inR y1 10) (bd (sJ σ 96 (Int32.toNatClampNeg y1) y0) (fun σ71 => bd (x5 + 1) (fun x72 => g48 x1 x2 x3 x4 x72 σ71)))
def F_X12_cracks_48 : Nat → Int32 → Int32 → Int32 → Int32 → Int32 → gS → Option (Int32 × gS)
  | 0, _, _, _, _, _, _ => none
  | n + 1, x1, x2, x3, x4, x5, σ =>
    if 10 ≤ x5 then (ob (F_X12_laysAside_0 σ) (fun σ79 => F_X12_cracks_88 fu x1 x2 x3 x4 1 0 σ79)) else (if x5 = 0 then (F_X12_cracks_71 (F_X12_cracks_48 n) x1 x2 x3 x4 x5 1 x5 σ) else (F_X12_cracks_71 (F_X12_cracks_48 n) x1 x2 x3 x4 x5 0 x5 σ))
def F_X12_cracks_0 (x1 : Int32) (x2 : Int32) (x3 : Int32) (x4 : Int32) (σ : gS) : Option (Int32 × gS) :=
    ob (F_X12_isDye_0 x1 σ) (fun r2 => if r2 = 0 then (some ((-1), σ)) else (if (F_X12_in_0 (Int32.toInt64 x2) 0 8) = 0 then (some ((-1), σ)) else (if (F_X12_in_0 (Int32.toInt64 x3) 0 10) = 0 then (some ((-1), σ)) else (if (F_X12_in_0 (Int32.toInt64 x4) 0 1) = 0 then (some ((-1), σ)) else (F_X12_cracks_48 fu x1 x2 x3 x4 0 σ)))))
def F_X12_decades_62 : Nat → Int32 → Int32 → Int64 → Int32 → Int32 → gS → Option (Int32 × gS)
  | 0, _, _, _, _, _, _ => none
  | n + 1, x1, x3, x4, x6, x7, σ =>
    if x1 ≤ x7 then (if x3 = 0 then (ob (F_X12_darkAll_0 87 σ) (fun r136 => some (r136, σ))) else (some (x6, σ))) else (bd ((16807 * x4) - (16807 * x4) / 2147483647 * 2147483647) (fun x78 => ob (F_X12_doingsThere_0 σ) (fun r93 => ck (¬ (Int32.toInt64 r93) = 0) (ob (F_X12_doingOf_0 (Int64.toInt32 ((x78 / 4) - (x78 / 4) / (Int32.toInt64 r93) * (Int32.toInt64 r93))) σ) (fun r99 => ob (F_X12_doesAll_0 87 r99 σ) (fun σ102 => ob (F_X12_rightOn_0 87 σ102) (fun r112 => ob (F_X12_bits_0 r112) (fun r115 => bd (x6 + r115) (fun x119 => bd (x7 + 1) (fun x121 => F_X12_decades_62 n x1 x3 x78 x119 x121 σ102))))))))))
def F_X12_decades_0 (x1 : Int32) (x2 : Int32) (x3 : Int32) (σ : gS) : Option (Int32 × gS) :=
    if (F_X12_in_0 (Int32.toInt64 x1) 0 60) = 0 then (some ((-1), σ)) else (if (F_X12_in_0 (Int32.toInt64 x2) 1 999999) = 0 then (some ((-1), σ)) else (if (F_X12_in_0 (Int32.toInt64 x3) 0 1) = 0 then (some ((-1), σ)) else (if (σ.1 83 0) = 0 then (some ((-2), σ)) else (ob (F_X12_laysAside_0 σ) (fun σ49 => bd (Int32.toInt64 x2) (fun x54 => F_X12_decades_62 fu x1 x3 x54 0 0 σ49))))))
def F_X12_isSheet_0 (x0 : Int32) (x1 : Int32) : Int32 :=
    if (F_X12_in_0 (Int32.toInt64 x0) 0 3) = 0 then 0 else (if (F_X12_in_0 (Int32.toInt64 x1) 0 3) = 0 then 0 else 1)
def F_X12_found_46 (σ : gS) : Option Int32 :=
    some (-13)
def F_X12_found_0 (x1 : Int32) (x2 : Int32) (x3 : Int32) (x4 : Int32) (σ : gS) : Option Int32 :=
    ck (inR x1 4) (if 0 ≤ (σ.1 92 (Int32.toNatClampNeg x1)) then (ck (inR x1 4) (if (σ.1 93 (Int32.toNatClampNeg x1)) = x2 then (if x3 < 0 then (F_X12_found_46 σ) else (ck (inR x1 4) (if (lg_cmp ((Int32.toInt64 x3) + (Int32.toInt64 x4)) (Int32.toInt64 (σ.1 92 (Int32.toNatClampNeg x1)))) ≤ 0 then (some 0) else (F_X12_found_46 σ)))) else (some (-12)))) else (some (-11)))
def F_X12_cut_0 (x0 : Int32) (x1 : Int64) : Int64 :=
    if x0 = 0 then (Int32.toInt64 ((Int32.toInt8 (Int64.toInt32 x1)).toInt32)) else (if x0 = 1 then (Int32.toInt64 ((Int32.toInt16 (Int64.toInt32 x1)).toInt32)) else (if x0 = 2 then (Int32.toInt64 (Int64.toInt32 x1)) else x1))
def F_X12_log_45 : Nat → Int32 → Int32 → Int32 → gS → Option (Int32 × gS)
  | 0, _, _, _, _ => none
  | n + 1, x1, x3, x5, σ =>
    if (σ.1 83 0) ≤ x5 then (some (σ.1 83 0, σ)) else (ob (F_X12_hueOf_0 86 x5 σ) (fun r75 => ck (inR (((24 * x1) + x3) + x5) 96) (bd (sJ σ 94 (Int32.toNatClampNeg (((24 * x1) + x3) + x5)) (Int32.toInt64 r75)) (fun σ79 => bd (x5 + 1) (fun x80 => F_X12_log_45 n x1 x3 x80 σ79)))))
def F_X12_log_0 (x1 : Int32) (x2 : Int32) (x3 : Int32) (σ : gS) : Option (Int32 × gS) :=
    if (σ.1 83 0) = 0 then (some ((-1), σ)) else (if (F_X12_isSheet_0 x1 x2) = 0 then (some ((-1), σ)) else (ob (F_X12_found_0 x1 x2 x3 (σ.1 83 0) σ) (fun r29 => if 0 ≤ r29 then (F_X12_log_45 fu x1 x3 0 σ) else (some (r29, σ)))))
def F_X12_areDoings_43 (g6 : Int32 → Int32 → Int32 → Int32 → Int32 → gS → Option Int32) (x1 : Int32) (x2 : Int32) (x3 : Int32) (x5 : Int32) (y0 : Int32) (σ : gS) : Option Int32 :=
    bd (x5 + 1) (fun x45 => g6 x1 x2 x3 y0 x45 σ)
def F_X12_areDoings_42 (g6 : Int32 → Int32 → Int32 → Int32 → Int32 → gS → Option Int32) (x1 : Int32) (x2 : Int32) (x3 : Int32) (x5 : Int32) (σ : gS) : Option Int32 :=
    F_X12_areDoings_43 g6 x1 x2 x3 x5 0 σ
def F_X12_areDoings_6 : Nat → Int32 → Int32 → Int32 → Int32 → Int32 → gS → Option Int32
  | 0, _, _, _, _, _, _ => none
  | n + 1, x1, x2, x3, x4, x5, σ =>
    if x3 ≤ x5 then (ck (nb x4) (some x4)) else (if x4 = 0 then (F_X12_areDoings_42 (F_X12_areDoings_6 n) x1 x2 x3 x5 σ) else (ck (inR (((24 * x1) + x2) + x5) 96) (ob (F_X12_isDoing_0 (σ.2 94 (Int32.toNatClampNeg (((24 * x1) + x2) + x5))) σ) (fun r32 => if r32 = 0 then (F_X12_areDoings_42 (F_X12_areDoings_6 n) x1 x2 x3 x5 σ) else (F_X12_areDoings_43 (F_X12_areDoings_6 n) x1 x2 x3 x5 1 σ)))))
def F_X12_areDoings_0 (x1 : Int32) (x2 : Int32) (x3 : Int32) (σ : gS) : Option Int32 :=
    F_X12_areDoings_6 fu x1 x2 x3 1 0 σ
def F_X12_ahead_86 : Nat → Int32 → Int32 → Int32 → Int32 → Int32 → Int32 → gS → Option (Int32 × gS)
  | 0, _, _, _, _, _, _, _ => none
  | n + 1, x1, x2, x4, x5, x6, x8, σ =>
    if x5 ≤ x8 then (if x6 = 0 then (ob (F_X12_hueOf_0 87 x1 σ) (fun r134 => some (r134, σ))) else (if x6 = 1 then (ob (F_X12_darkOf_0 87 x1 σ) (fun r151 => some (r151, σ))) else (ck (inR (24 + x1) 40) (some (σ.1 87 (Int32.toNatClampNeg (24 + x1)), σ))))) else (ck (inR (((24 * x2) + x4) + x8) 96) (ob (F_X12_doesOn_0 87 x1 (Int64.toInt32 (σ.2 94 (Int32.toNatClampNeg (((24 * x2) + x4) + x8)))) σ) (fun σ115 => bd (x8 + 1) (fun x118 => F_X12_ahead_86 n x1 x2 x4 x5 x6 x118 σ115))))
def F_X12_ahead_0 (x1 : Int32) (x2 : Int32) (x3 : Int32) (x4 : Int32) (x5 : Int32) (x6 : Int32) (σ : gS) : Option (Int32 × gS) :=
    ob (F_X12_isSquare_0 x1 σ) (fun r2 => if r2 = 0 then (some ((-1), σ)) else (if (F_X12_isSheet_0 x2 x3) = 0 then (some ((-1), σ)) else (if (F_X12_in_0 (Int32.toInt64 x5) 0 20) = 0 then (some ((-1), σ)) else (if (F_X12_in_0 (Int32.toInt64 x6) 0 2) = 0 then (some ((-1), σ)) else (ob (F_X12_found_0 x2 x3 x4 x5 σ) (fun r51 => if 0 ≤ r51 then (ob (F_X12_areDoings_0 x2 x4 x5 σ) (fun r70 => if r70 = 0 then (some ((-2), σ)) else (ob (F_X12_laysAside_0 σ) (fun σ80 => F_X12_ahead_86 fu x1 x2 x4 x5 x6 0 σ80)))) else (some (r51, σ))))))))
def F_X12_codeOf_0 (x1 : Int32) (σ : gS) : Option Int32 :=
    bd (0 + (3 * x1)) (fun x5 => ck (inR x5 40) (ck (inR (x5 + 1) 40) (ck (inR (x5 + 2) 40) (ck (inR (24 + x1) 40) (some ((4 * (((100 * (σ.1 87 (Int32.toNatClampNeg x5))) + (10 * (σ.1 87 (Int32.toNatClampNeg (x5 + 1))))) + (σ.1 87 (Int32.toNatClampNeg (x5 + 2))))) + (σ.1 87 (Int32.toNatClampNeg (24 + x1)))))))))
def F_X12_goesRound_59 (g28 : Int32 → Int32 → Int32 → Int32 → Int32 → gS → Option gS) : Nat → Int32 → Int32 → Int32 → Int32 → Int32 → Int32 → gS → Option gS
  | 0, _, _, _, _, _, _, _ => none
  | n + 1, x1, x2, x3, x4, x5, x6, σ =>
    if x4 ≤ x6 then (g28 x1 x2 x3 x4 x5 σ) else (ck (inR (((24 * x2) + x3) + x6) 96) (ob (F_X12_doesOn_0 87 x1 (Int64.toInt32 (σ.2 94 (Int32.toNatClampNeg (((24 * x2) + x3) + x6)))) σ) (fun σ87 => bd (x6 + 1) (fun x90 => F_X12_goesRound_59 g28 n x1 x2 x3 x4 x5 x90 σ87))))
def F_X12_goesRound_28 : Nat → Int32 → Int32 → Int32 → Int32 → Int32 → gS → Option gS
  | 0, _, _, _, _, _, _ => none
  | n + 1, x1, x2, x3, x4, x5, σ =>
    ob (F_X12_codeOf_0 x1 σ) (fun r34 => ck (inR r34 4000) (if (σ.1 97 (Int32.toNatClampNeg r34)) = 0 then (bd (x5 + 1) (fun x41 => ob (F_X12_codeOf_0 x1 σ) (fun r50 => ck (inR r50 4000) (bd (sI σ 97 (Int32.toNatClampNeg r50) x41) (fun σ55 => F_X12_goesRound_59 (F_X12_goesRound_28 n) fu x1 x2 x3 x4 x41 0 σ55))))) else (ob (F_X12_codeOf_0 x1 σ) (fun r106 => ck (inR r106 4000) (bd (sI σ 82 20 ((σ.1 97 (Int32.toNatClampNeg r106)) - 1)) (fun σ112 => bd (sI σ112 82 21 (x5 - (σ112.1 82 20))) (fun σ123 => some σ123)))))))
def F_X12_goesRound_3 : Nat → Int32 → Int32 → Int32 → Int32 → Int32 → gS → Option gS
  | 0, _, _, _, _, _, _ => none
  | n + 1, x1, x2, x3, x4, x5, σ =>
    if 4000 ≤ x5 then (F_X12_goesRound_28 fu x1 x2 x3 x4 0 σ) else (ck (inR x5 4000) (bd (sI σ 97 (Int32.toNatClampNeg x5) 0) (fun σ18 => bd (x5 + 1) (fun x19 => F_X12_goesRound_3 n x1 x2 x3 x4 x19 σ18))))
def F_X12_goesRound_0 (x1 : Int32) (x2 : Int32) (x3 : Int32) (x4 : Int32) (σ : gS) : Option gS :=
    F_X12_goesRound_3 fu x1 x2 x3 x4 0 σ
def F_X12_round_134 (g89 : Int32 → Int32 → Int32 → Int32 → Int32 → Int32 → Int32 → gS → Option (Int32 × gS)) : Nat → Int32 → Int32 → Int32 → Int32 → Int32 → Int32 → Int32 → Int32 → gS → Option (Int32 × gS)
  | 0, _, _, _, _, _, _, _, _, _ => none
  | n + 1, x1, x3, x4, x5, x7, x8, x9, x10, σ =>
    ck (¬ (σ.1 82 21) = 0) (if (x8 - x8 / (σ.1 82 21) * (σ.1 82 21)) = 0 then (bd (x9 + 1) (fun x154 => g89 x1 x3 x4 x5 x7 x8 x154 σ)) else (bd (x8 + x10) (fun x149 => F_X12_round_134 g89 n x1 x3 x4 x5 x7 x149 x9 x10 σ)))
def F_X12_round_128 (g89 : Int32 → Int32 → Int32 → Int32 → Int32 → Int32 → Int32 → gS → Option (Int32 × gS)) (x1 : Int32) (x3 : Int32) (x4 : Int32) (x5 : Int32) (x8 : Int32) (x9 : Int32) (y0 : Int32) (σ : gS) : Option (Int32 × gS) :=
    F_X12_round_134 g89 fu x1 x3 x4 x5 y0 x8 x9 x8 σ
def F_X12_round_89 : Nat → Int32 → Int32 → Int32 → Int32 → Int32 → Int32 → Int32 → gS → Option (Int32 × gS)
  | 0, _, _, _, _, _, _, _, _ => none
  | n + 1, x1, x3, x4, x5, x7, x8, x9, σ =>
    if (σ.1 83 0) ≤ x9 then (if x5 = 0 then (some (x7, σ)) else (some (x8, σ))) else (ob (F_X12_goesRound_0 x9 x1 x3 x4 σ) (fun σ107 => if (σ107.1 82 20) ≤ x7 then (F_X12_round_128 (F_X12_round_89 n) x1 x3 x4 x5 x8 x9 x7 σ107) else (F_X12_round_128 (F_X12_round_89 n) x1 x3 x4 x5 x8 x9 (σ107.1 82 20) σ107)))
def F_X12_round_0 (x1 : Int32) (x2 : Int32) (x3 : Int32) (x4 : Int32) (x5 : Int32) (σ : gS) : Option (Int32 × gS) :=
    if (σ.1 83 0) = 0 then (some ((-1), σ)) else (if (F_X12_isSheet_0 x1 x2) = 0 then (some ((-1), σ)) else (if (F_X12_in_0 (Int32.toInt64 x4) 1 20) = 0 then (some ((-1), σ)) else (if (F_X12_in_0 (Int32.toInt64 x5) 0 1) = 0 then (some ((-1), σ)) else (ob (F_X12_found_0 x1 x2 x3 x4 σ) (fun r49 => if 0 ≤ r49 then (ob (F_X12_areDoings_0 x1 x3 x4 σ) (fun r67 => if r67 = 0 then (some ((-2), σ)) else (ob (F_X12_laysAside_0 σ) (fun σ77 => F_X12_round_89 fu x1 x3 x4 x5 0 1 0 σ77)))) else (some (r49, σ)))))))
def F_X12_tryOf_116 (g9 : Int32 → Int32 → Int32 → Int32 → Int32 → Option Int32) (x0 : Int32) (x1 : Int32) (x3 : Int32) (x4 : Int32) (x5 : Int32) (y0 : Int32) : Option Int32 :=
    bd (F_X12_less_0 x3 x5) (fun x123 => bd (x4 + 1) (fun x124 => g9 x0 x1 y0 x123 x124))
def F_X12_tryOf_96 (g9 : Int32 → Int32 → Int32 → Int32 → Int32 → Option Int32) (g25 : Int32 → Int32 → Int32 → Int32 → Int32 → Int32 → Int32 → Option Int32) (x0 : Int32) (x1 : Int32) (x2 : Int32) (x3 : Int32) (x4 : Int32) (x6 : Int32) (y0 : Int32) : Option Int32 :=
    bd (x6 + 1) (fun x98 => g25 x0 x1 x2 x3 x4 y0 x98)
def F_X12_tryOf_73 (g9 : Int32 → Int32 → Int32 → Int32 → Int32 → Option Int32) (g25 : Int32 → Int32 → Int32 → Int32 → Int32 → Int32 → Int32 → Option Int32) (g37 : Int32 → Int32 → Int32 → Int32 → Int32 → Int32 → Int32 → Int32 → Int32 → Option Int32) (x0 : Int32) (x1 : Int32) (x2 : Int32) (x3 : Int32) (x4 : Int32) (x5 : Int32) (x6 : Int32) (x8 : Int32) (y0 : Int32) (y1 : Int32) : Option Int32 :=
    bd (y1 + y0) (fun x74 => bd (x8 + 1) (fun x76 => g37 x0 x1 x2 x3 x4 x5 x6 x74 x76))
def F_X12_tryOf_72 (g9 : Int32 → Int32 → Int32 → Int32 → Int32 → Option Int32) (g25 : Int32 → Int32 → Int32 → Int32 → Int32 → Int32 → Int32 → Option Int32) (g37 : Int32 → Int32 → Int32 → Int32 → Int32 → Int32 → Int32 → Int32 → Int32 → Option Int32) (x0 : Int32) (x1 : Int32) (x2 : Int32) (x3 : Int32) (x4 : Int32) (x5 : Int32) (x6 : Int32) (x8 : Int32) (y0 : Int32) : Option Int32 :=
    F_X12_tryOf_73 g9 g25 g37 x0 x1 x2 x3 x4 x5 x6 x8 0 y0
def F_X12_tryOf_37 (g9 : Int32 → Int32 → Int32 → Int32 → Int32 → Option Int32) (g25 : Int32 → Int32 → Int32 → Int32 → Int32 → Int32 → Int32 → Option Int32) : Nat → Int32 → Int32 → Int32 → Int32 → Int32 → Int32 → Int32 → Int32 → Int32 → Option Int32
  | 0, _, _, _, _, _, _, _, _, _ => none
  | n + 1, x0, x1, x2, x3, x4, x5, x6, x7, x8 =>
    if 6 ≤ x8 then (if x7 ≤ x5 then (F_X12_tryOf_96 g9 g25 x0 x1 x2 x3 x4 x6 x5) else (F_X12_tryOf_96 g9 g25 x0 x1 x2 x3 x4 x6 x7)) else (if (F_X12_has_0 x0 x8) = 0 then (F_X12_tryOf_72 g9 g25 (F_X12_tryOf_37 g9 g25 n) x0 x1 x2 x3 x4 x5 x6 x8 x7) else (ob (F_X12_takenBy_0 x8 x1 x4) (fun r60 => if r60 = x6 then (F_X12_tryOf_73 g9 g25 (F_X12_tryOf_37 g9 g25 n) x0 x1 x2 x3 x4 x5 x6 x8 1 x7) else (F_X12_tryOf_72 g9 g25 (F_X12_tryOf_37 g9 g25 n) x0 x1 x2 x3 x4 x5 x6 x8 x7))))
def F_X12_tryOf_25 (g9 : Int32 → Int32 → Int32 → Int32 → Int32 → Option Int32) : Nat → Int32 → Int32 → Int32 → Int32 → Int32 → Int32 → Int32 → Option Int32
  | 0, _, _, _, _, _, _, _ => none
  | n + 1, x0, x1, x2, x3, x4, x5, x6 =>
    if 5 ≤ x6 then (if x3 ≤ x5 then (F_X12_tryOf_116 g9 x0 x1 x3 x4 x5 x2) else (F_X12_tryOf_116 g9 x0 x1 x3 x4 x5 x4)) else (F_X12_tryOf_37 g9 (F_X12_tryOf_25 g9 n) fu x0 x1 x2 x3 x4 x5 x6 0 1)
def F_X12_tryOf_9 : Nat → Int32 → Int32 → Int32 → Int32 → Int32 → Option Int32
  | 0, _, _, _, _, _ => none
  | n + 1, x0, x1, x2, x3, x4 =>
    if 4 ≤ x4 then (some x2) else (if x0 = 0 then (some x2) else (F_X12_tryOf_25 (F_X12_tryOf_9 n) fu x0 x1 x2 x3 x4 0 0))
def F_X12_tryOf_0 (x0 : Int32) (x1 : Int32) : Option Int32 :=
    F_X12_tryOf_9 fu x0 x1 (-4) 6 1
def F_X12_kinds_185 (g66 : Int32 → Int32 → Int32 → Int32 → Int32 → Int32 → gS → Option Int32) (g128 : Int32 → Int32 → Int32 → Int32 → Int32 → Int32 → Int32 → Int32 → gS → Option Int32) (x1 : Int32) (x3 : Int32) (x4 : Int32) (x5 : Int32) (x8 : Int32) (x9 : Int32) (x10 : Int32) (y0 : Int32) (y1 : Int32) (σ : gS) : Option Int32 :=
    bd (y1 &&& y0) (fun x186 => bd (x10 + 1) (fun x188 => g128 x1 x3 x4 x5 x186 x8 x9 x188 σ))
def F_X12_kinds_128 (g66 : Int32 → Int32 → Int32 → Int32 → Int32 → Int32 → gS → Option Int32) : Nat → Int32 → Int32 → Int32 → Int32 → Int32 → Int32 → Int32 → Int32 → gS → Option Int32
  | 0, _, _, _, _, _, _, _, _, _ => none
  | n + 1, x1, x3, x4, x5, x7, x8, x9, x10, σ =>
    if 6 ≤ x10 then (bd (x8 + 1) (fun x194 => g66 x1 x3 x4 x5 x7 x194 σ)) else (ck (inR x9 96) (ck (inR (x9 + 1) 96) (ob (F_X12_takenBy_0 x10 (Int64.toInt32 (σ.2 94 (Int32.toNatClampNeg x9))) (Int64.toInt32 (σ.2 94 (Int32.toNatClampNeg (x9 + 1))))) (fun r157 => ck (inR (x9 + 2) 96) (if (lg_cmp (Int32.toInt64 r157) (σ.2 94 (Int32.toNatClampNeg (x9 + 2)))) = 0 then (F_X12_kinds_185 g66 (F_X12_kinds_128 g66 n) x1 x3 x4 x5 x8 x9 x10 x7 x7 σ) else (F_X12_kinds_185 g66 (F_X12_kinds_128 g66 n) x1 x3 x4 x5 x8 x9 x10 (((1 : Int32) <<< (x10 &&& (31 : Int32))) ^^^ (-1)) x7 σ))))))
def F_X12_kinds_66 : Nat → Int32 → Int32 → Int32 → Int32 → Int32 → Int32 → gS → Option Int32
  | 0, _, _, _, _, _, _, _ => none
  | n + 1, x1, x3, x4, x5, x7, x8, σ =>
    if x4 ≤ x8 then (if 0 ≤ x5 then (ob (F_X12_tryOf_0 x7 x5) (fun r214 => some r214)) else (some x7)) else (bd (((24 * x1) + x3) + (3 * x8)) (fun x84 => ck (inR x84 96) (if (F_X12_in_0 (σ.2 94 (Int32.toNatClampNeg x84)) 0 9) = 0 then (some (-2)) else (ck (inR (x84 + 1) 96) (if (F_X12_in_0 (σ.2 94 (Int32.toNatClampNeg (x84 + 1))) 0 3) = 0 then (some (-2)) else (F_X12_kinds_128 (F_X12_kinds_66 n) fu x1 x3 x4 x5 x7 x8 x84 1 σ))))))
def F_X12_kinds_0 (x1 : Int32) (x2 : Int32) (x3 : Int32) (x4 : Int32) (x5 : Int32) (σ : gS) : Option Int32 :=
    if (F_X12_isSheet_0 x1 x2) = 0 then (some (-1)) else (if (F_X12_in_0 (Int32.toInt64 x4) 1 7) = 0 then (some (-1)) else (if (F_X12_in_0 (Int32.toInt64 x5) (-1) 9) = 0 then (some (-1)) else (ob (F_X12_found_0 x1 x2 x3 (3 * x4) σ) (fun r46 => if 0 ≤ r46 then (F_X12_kinds_66 fu x1 x3 x4 x5 62 0 σ) else (some r46)))))
def F_X12_wishes_97 (g48 : Int32 → Int32 → Int32 → Int32 → gS → Option Int32) (x1 : Int32) (x3 : Int32) (x6 : Int32) (y0 : Int32) (y1 : Int32) (σ : gS) : Option Int32 :=
    bd (y1 ||| y0) (fun x98 => bd (x6 + 1) (fun x100 => g48 x1 x3 x98 x100 σ))
def F_X12_wishes_48 : Nat → Int32 → Int32 → Int32 → Int32 → gS → Option Int32
  | 0, _, _, _, _, _ => none
  | n + 1, x1, x3, x5, x6, σ =>
    if (σ.1 83 0) ≤ x6 then (some x5) else (ob (F_X12_hueOf_0 86 x6 σ) (fun r67 => ck (inR (((24 * x1) + x3) + x6) 96) (if (lg_cmp (Int32.toInt64 r67) (σ.2 94 (Int32.toNatClampNeg (((24 * x1) + x3) + x6)))) = 0 then (F_X12_wishes_97 (F_X12_wishes_48 n) x1 x3 x6 ((1 : Int32) <<< (x6 &&& (31 : Int32))) x5 σ) else (F_X12_wishes_97 (F_X12_wishes_48 n) x1 x3 x6 0 x5 σ))))
def F_X12_wishes_0 (x1 : Int32) (x2 : Int32) (x3 : Int32) (σ : gS) : Option Int32 :=
    if (σ.1 83 0) = 0 then (some (-1)) else (if (F_X12_isSheet_0 x1 x2) = 0 then (some (-1)) else (ob (F_X12_found_0 x1 x2 x3 (σ.1 83 0) σ) (fun r29 => if 0 ≤ r29 then (F_X12_wishes_48 fu x1 x3 0 0 σ) else (some r29))))
def F_X12_count_107 (g77 : Int32 → Int32 → gS → Option Int32) (x3 : Int32) (y0 : Int32) (y1 : Int32) (σ : gS) : Option Int32 :=
    bd (y1 ||| y0) (fun x108 => bd (x3 + 1) (fun x109 => g77 x108 x109 σ))
def F_X12_count_77 : Nat → Int32 → Int32 → gS → Option Int32
  | 0, _, _, _ => none
  | n + 1, x2, x3, σ =>
    if (σ.1 83 0) ≤ x3 then (some x2) else (ck (inR (24 + x3) 40) (if (σ.1 86 (Int32.toNatClampNeg (24 + x3))) ≤ 0 then (F_X12_count_107 (F_X12_count_77 n) x3 0 x2 σ) else (F_X12_count_107 (F_X12_count_77 n) x3 ((1 : Int32) <<< (x3 &&& (31 : Int32))) x2 σ)))
def F_X12_count_52 (x1 : Int32) (σ : gS) : Option Int32 :=
    ck (inR x1 26) (some (σ.1 83 (Int32.toNatClampNeg x1)))
def F_X12_count_0 (x1 : Int32) (σ : gS) : Option Int32 :=
    if x1 = 0 then (F_X12_count_52 x1 σ) else (if x1 = 1 then (F_X12_count_52 x1 σ) else (if x1 = 2 then (F_X12_count_52 x1 σ) else (if x1 = 3 then (some (σ.1 82 5)) else (if x1 = 4 then (ob (F_X12_rightOn_0 86 σ) (fun r69 => some r69)) else (if x1 = 5 then (F_X12_count_77 fu 0 0 σ) else (if x1 = 6 then (ob (F_X12_darkAll_0 86 σ) (fun r122 => some r122)) else (if x1 = 7 then (some (σ.1 82 7)) else (if x1 = 8 then (some (σ.1 82 11)) else (some (-1))))))))))
def F_X12_sheet_40 : Nat → Int32 → Int32 → Int32 → gS → Option (Int32 × gS)
  | 0, _, _, _, _ => none
  | n + 1, x1, x3, x4, σ =>
    if 24 ≤ x4 then (some (x3, σ)) else (ck (inR ((24 * x1) + x4) 96) (bd (sJ σ 94 (Int32.toNatClampNeg ((24 * x1) + x4)) 0) (fun σ59 => bd (x4 + 1) (fun x60 => F_X12_sheet_40 n x1 x3 x60 σ59))))
def F_X12_sheet_0 (x1 : Int32) (x2 : Int32) (x3 : Int32) (σ : gS) : Option (Int32 × gS) :=
    if (F_X12_isSheet_0 x1 x2) = 0 then (some ((-1), σ)) else (if x3 ≤ 24 then (if 0 ≤ x3 then (ck (inR x1 4) (bd (sI σ 92 (Int32.toNatClampNeg x1) x3) (fun σ29 => ck (inR x1 4) (bd (sI σ29 93 (Int32.toNatClampNeg x1) x2) (fun σ36 => F_X12_sheet_40 fu x1 x3 0 σ36))))) else (some ((-14), σ))) else (some ((-1), σ)))
def F_X12_drop_0 (x1 : Int32) (σ : gS) : Option (Int32 × gS) :=
    if (F_X12_in_0 (Int32.toInt64 x1) 0 3) = 0 then (some ((-1), σ)) else (ck (inR x1 4) (if 0 ≤ (σ.1 92 (Int32.toNatClampNeg x1)) then (ck (inR x1 4) (bd (σ.1 92 (Int32.toNatClampNeg x1)) (fun x32 => ck (inR x1 4) (bd (sI σ 92 (Int32.toNatClampNeg x1) (-1)) (fun σ39 => some (x32, σ39)))))) else (some ((-11), σ))))
def F_X12_item_0 (x1 : Int32) (x2 : Int32) (x3 : Int32) (x4 : Int64) (σ : gS) : Option (Int64 × gS) :=
    if (F_X12_isSheet_0 x1 x2) = 0 then (some ((-1), σ)) else (ob (F_X12_found_0 x1 x2 x3 1 σ) (fun r17 => if 0 ≤ r17 then (ck (inR ((24 * x1) + x3) 96) (bd (sJ σ 94 (Int32.toNatClampNeg ((24 * x1) + x3)) (F_X12_cut_0 x2 x4)) (fun σ47 => ck (inR ((24 * x1) + x3) 96) (some (σ47.2 94 (Int32.toNatClampNeg ((24 * x1) + x3)), σ47))))) else (some (Int32.toInt64 r17, σ))))
def F_X12_copy_136 (g111 : Int32 → Int32 → Int32 → Int32 → Int32 → Int32 → gS → Option (Int32 × gS)) (x1 : Int32) (x2 : Int32) (x3 : Int32) (x4 : Int32) (x5 : Int32) (x6 : Int32) (y0 : Int32) (σ : gS) : Option (Int32 × gS) :=
    ck (inR (((24 * x1) + x2) + y0) 96) (ck (inR (((24 * x3) + x4) + y0) 96) (bd (sJ σ 94 (Int32.toNatClampNeg (((24 * x3) + x4) + y0)) (σ.2 94 (Int32.toNatClampNeg (((24 * x1) + x2) + y0)))) (fun σ166 => bd (x6 + 1) (fun x167 => g111 x1 x2 x3 x4 x5 x167 σ166))))
def F_X12_copy_111 : Nat → Int32 → Int32 → Int32 → Int32 → Int32 → Int32 → gS → Option (Int32 × gS)
  | 0, _, _, _, _, _, _, _ => none
  | n + 1, x1, x2, x3, x4, x5, x6, σ =>
    if x5 ≤ x6 then (some (x5, σ)) else (if x4 ≤ x2 then (F_X12_copy_136 (F_X12_copy_111 n) x1 x2 x3 x4 x5 x6 x6 σ) else (F_X12_copy_136 (F_X12_copy_111 n) x1 x2 x3 x4 x5 x6 ((x5 - 1) - x6) σ))
def F_X12_copy_0 (x1 : Int32) (x2 : Int32) (x3 : Int32) (x4 : Int32) (x5 : Int32) (σ : gS) : Option (Int32 × gS) :=
    if (F_X12_in_0 (Int32.toInt64 x1) 0 3) = 0 then (some ((-1), σ)) else (if (F_X12_in_0 (Int32.toInt64 x3) 0 3) = 0 then (some ((-1), σ)) else (ck (inR x1 4) (if (σ.1 92 (Int32.toNatClampNeg x1)) < 0 then (some ((-11), σ)) else (ck (inR x3 4) (if 0 ≤ (σ.1 92 (Int32.toNatClampNeg x3)) then (ck (inR x1 4) (ck (inR x3 4) (if (σ.1 93 (Int32.toNatClampNeg x1)) = (σ.1 93 (Int32.toNatClampNeg x3)) then (if x5 < 0 then (some ((-13), σ)) else (ck (inR x1 4) (ob (F_X12_found_0 x1 (σ.1 93 (Int32.toNatClampNeg x1)) x2 x5 σ) (fun r81 => if r81 < 0 then (some ((-13), σ)) else (ck (inR x3 4) (ob (F_X12_found_0 x3 (σ.1 93 (Int32.toNatClampNeg x3)) x4 x5 σ) (fun r99 => if 0 ≤ r99 then (F_X12_copy_111 fu x1 x2 x3 x4 x5 0 σ) else (some ((-13), σ))))))))) else (some ((-12), σ))))) else (some ((-11), σ)))))))
