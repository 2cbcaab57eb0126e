/-! ===== BEGIN words of one list among another's, by their places ===== -/
theorem goodIn_r {big : List Cond} (ws : List Cond) (ps : List Nat) (hp : ws = ps.filterMap (fun i => big[i]?)) (h : ws.all goodWord = true) : GoodIn big ws := by
  intro w hw
  have h1 := List.all_eq_true.mp h w hw
  rw [hp] at hw
  obtain ⟨i, -, hi⟩ := List.mem_filterMap.mp hw
  have hm : w ∈ big := by first | exact List.mem_of_getElem? hi | exact List.getElem?_mem hi
  exact ⟨hm, good_of_word h1⟩
theorem goodIn_app {big a b : List Cond} (ha : GoodIn big a) (hb : GoodIn big b) : GoodIn big (a ++ b) := fun w h => (List.mem_append.mp h).elim (ha w) (hb w)
theorem goodIn_ca {big a b : List Cond} {c : Cond} (ha : GoodIn big (c :: a)) (hb : GoodIn big b) : GoodIn big (c :: (a ++ b)) := fun w h => (List.mem_cons.mp h).elim (fun e => ha w (List.mem_cons.mpr (Or.inl e))) (fun h => (List.mem_append.mp h).elim (fun h => ha w (List.mem_cons.mpr (Or.inr h))) (hb w))
theorem goodIn_sub {big ws : List Cond} (hm : ∀ w ∈ ws, w ∈ big) (h : ws.all goodWord = true) : GoodIn big ws := fun w hw => ⟨hm w hw, good_of_word (List.all_eq_true.mp h w hw)⟩
/-! ===== END ===== -/

/-! ===== BEGIN new T[n][m]: the outer array a place, the inner ones among the pooled ===== -/
/-- f, but v at every address of l -/
def vr_up {α : Type} (f : Nat → α) (l : List Nat) (v : α) : Nat → α := fun a => if a ∈ l then v else f a
theorem vr_up_in {α : Type} {f : Nat → α} {l : List Nat} {v : α} {a : Nat} (h : a ∈ l) : vr_up f l v a = v := if_pos h
theorem vr_up_ne {α : Type} {f : Nat → α} {l : List Nat} {v : α} {a : Nat} (h : a ∉ l) : vr_up f l v a = f a := if_neg h
theorem vr_rows {L l : List Nat} {f : Nat → va_E} {e : va_E} (h : ∀ a, a ∈ l → a ∉ L) : va_pl L f ++ l.map (fun a => (a, e)) = va_pl (L ++ l) (vr_up f l e) := by
  unfold va_pl
  rw [List.map_append]
  congr 1
  · apply List.map_congr_left
    intro a ha
    rw [vr_up_ne (fun q => h a q ha)]
  · apply List.map_congr_left
    intro a ha
    rw [vr_up_in ha]
theorem vr_lay {X rows : va_W} {x : Nat × va_E} {pl : va_W} {D : va_G} {cl : List vw_C} {H : Heap} (hP : va_P D cl (((X ++ pl) ++ [x]) ++ rows) H) : va_P D cl ((X ++ [x]) ++ (pl ++ rows)) H := by
  rw [List.append_assoc (X ++ pl)] at hP
  have h := va_P.swap hP
  rw [← List.append_assoc X] at h
  have h2 := va_P.swap h
  rw [List.append_assoc (X ++ [x])] at h2
  exact h2
theorem vr_layD {X rows : va_W} {x : Nat × va_E} {pl : va_W} {A : Nat → Prop} (hD : va_D A (((X ++ pl) ++ [x]) ++ rows)) : va_D A ((X ++ [x]) ++ (pl ++ rows)) := by
  rw [List.append_assoc (X ++ pl)] at hD
  have h := va_D.swap hD
  rw [← List.append_assoc X] at h
  have h2 := va_D.swap h
  rw [List.append_assoc (X ++ [x])] at h2
  exact h2
theorem vr_outer (c : ClassId) (N h0 : Nat) : ∀ i : Nat, Jvm.Free.Multi.outerC c N h0 i = arrV c N (fun j => va_rf (if j < i then some (h0 + 1 + j) else none))
  | 0 => by
    show ({ cls := c, slots := Array.replicate N .null, vm := .none } : Cell) = _
    rw [arrV_new]
    refine congrArg (arrV c N) (funext fun j => ?_)
    simp [va_rf]
  | i + 1 => by
    show (Jvm.Free.Multi.outerC c N h0 i).setSlot i (.ref (h0 + 1 + i)) = _
    rw [vr_outer c N h0 i, arrV_store]
    refine congrArg (arrV c N) (funext fun j => ?_)
    by_cases e : j = i
    · subst e
      simp [updV, va_rf]
    · by_cases h : j < i
      · simp [updV, e, h, Nat.lt_succ_of_lt h]
      · simp [updV, e, h, show ¬ j < i + 1 by omega]
section VGM
variable {p : Program} {l : Launch} {e : Env} {R : Room} {s : State} {m : MethodId} {args : Array Value} {below : List Frame} {meth : Method} {c : Code} {H : Heap} {locs : List Loc} {cells slots : Nat} {Q : State → Prop}
variable {cc : ByteArray} {pc : Nat} {ls : Array Slot} {rest : List Value} {D : va_G} {cl : List vw_C} {A : Nat → Prop} {a : Nat} {tys : List (ClassId × FieldType)} {ws : va_W} {H0 : Heap}
theorem va_mna {X : va_W} {L : List Nat} {f : Nat → va_E} {cc : ByteArray} (hexec : p.tables.exec = Jvm.exec) (hb : c.code = cc) {own : String} {index : Nat} {ty : FieldType} {cy : ClassId} (hown : s.vm.findClass own = some m.cls) (hclink : (Cond.classLink own index ("[" ++ (FieldType.array ty).toString)).before args s = true) (hover : va_AOA ty s) (harr : (Cond.arrayClass ty).before args s = true) (hcy : s.vm.findClass (FieldType.array ty).toString = some cy)
    (hK : va_K D cl tys s) (hP : va_P D cl (X ++ va_pl L f) H) (hD : va_D A (X ++ va_pl L f)) (hS : va_S A H0 H locs) (hA : ∀ q, H0.size ≤ q → A q) {n k : Int32} {N' K' : Nat} {z : vp_A} (hn : ¬ n < 0) (hk : ¬ k < 0) (hN : n.toNatClampNeg = N') (hM : k.toNatClampNeg = K')
    (hb1 : N' * 4 ≤ 536870912) (hb2 : K' * componentBytes ty ≤ 536870912) (hb3 : K' ≤ 536870912) (hdf : fits ty (defaultValue ty) = true) (hdd : (defaultValue ty).isDefault = true) (hcells : cells + (1 + N') ≤ R.cells) (hslots : slots + (N' + N' * K') ≤ R.slots) (hz : ∀ c : ClassId, Jvm.Free.Multi.innerC c K' (defaultValue ty) = vp_cell c z) (hdg : decode cc pc = .ok (.multianewarray index 2, 4))
    (kk : ∀ (q : Nat) (r : Nat → Nat) (cA : ClassId) (H1 : Heap), (∀ i j : Nat, i < N' → j < N' → r i = r j → i = j) → (∀ i : Nat, i < N' → r i ∉ L) → va_K D cl (tys ++ [(cA, .array ty)]) s →
      va_P D cl ((X ++ [(q, .inl (cA, N', .inr (.inr (.inr (.inr (fun i => if i < N' then some (r i) else none))))))]) ++ va_pl (L ++ (List.range N').map r) (vr_up f ((List.range N').map r) (.inl (cy, z)))) H1 → va_D A ((X ++ [(q, .inl (cA, N', .inr (.inr (.inr (.inr (fun i => if i < N' then some (r i) else none))))))]) ++ va_pl (L ++ (List.range N').map r) (vr_up f ((List.range N').map r) (.inl (cy, z)))) → va_S A H0 H1 locs →
      W p l e R s m args below meth c H1 locs (cells + 1 + N') (slots + N' + N' * K') Q (F0 m (pc + 4) ls (.ref q :: rest))) : W p l e R s m args below meth c H locs cells slots Q (F0 m pc ls (.int k :: .int n :: rest)) := by
  subst hN
  subst hM
  intro T hT Xs
  obtain ⟨vm₁, cA, comp, -, fA, fC, hO, -, X', step⟩ := Xs.multianewarray2F hexec hown hclink (va_AOA.use hover) harr (g := F0 m pc ls (.int k :: .int n :: rest)) rfl (by rw [hb]; exact hdg) rfl hn hk hb1 hb2 hb3 hdf hdd hcells hslots
  have ec : some cy = some comp := hcy.symm.trans fC
  cases ec
  generalize hF : Jvm.Free.Multi.fill (T.setVm vm₁) cA cy n.toNatClampNeg k.toNatClampNeg (defaultValue ty) n.toNatClampNeg = F at X' step
  have hTh : (T.setVm vm₁).heap = H := hT
  obtain ⟨f1, f2, -, -⟩ := Jvm.Free.Multi.fill_facts (T.setVm vm₁) cA cy n.toNatClampNeg k.toNatClampNeg (defaultValue ty) n.toNatClampNeg
  rw [hF, hTh] at f1 f2
  have hold : ∀ x : Nat, x < H.size → F.heap[x]? = H[x]? := fun x hx => by
    have := Jvm.Free.Multi.fill_old (T.setVm vm₁) cA cy n.toNatClampNeg k.toNatClampNeg (defaultValue ty) (a := x) (by rw [hTh]; exact hx) n.toNatClampNeg
    rw [hF, hTh] at this
    exact this
  have hrow : ∀ j : Nat, j < n.toNatClampNeg → F.heap[H.size + 1 + j]? = some (vp_cell cy z) := fun j hj => by
    have := Jvm.Free.Multi.fill_inner (T.setVm vm₁) cA cy n.toNatClampNeg k.toNatClampNeg (defaultValue ty) n.toNatClampNeg j hj
    rw [hF, hTh, hz] at this
    exact this
  have hout : Jvm.Free.Multi.outerC cA n.toNatClampNeg H.size n.toNatClampNeg = vp_cell cA (n.toNatClampNeg, .inr (.inr (.inr (.inr (fun i => if i < n.toNatClampNeg then some (H.size + 1 + i) else none))))) := by
    rw [vp_cell_q]
    exact vr_outer cA n.toNatClampNeg H.size n.toNatClampNeg
  rw [hout] at f2
  have hlt : ∀ a, a ∈ L → a < H.size := fun a ha => by
    obtain ⟨k9, hk9⟩ := va_pl_get (X := X) (f := f) ha
    exact (hP k9 _ hk9).lt
  have hnl : ∀ i : Nat, i < n.toNatClampNeg → H.size + 1 + i ∉ L := fun i _ h => by
    have := hlt _ h
    omega
  have hnm : ∀ a, a ∈ (List.range n.toNatClampNeg).map (fun i => H.size + 1 + i) → a ∉ L := fun a ha h => by
    obtain ⟨i, -, rfl⟩ := List.mem_map.mp ha
    have := hlt _ h
    omega
  have hP0 : va_P D cl (X ++ va_pl L f) F.heap := hP.kept (fun k9 x hx => hold x.1 ((hP k9 x hx).lt))
  have hP1 : va_P D cl ((X ++ va_pl L f) ++ [(H.size, .inl (cA, n.toNatClampNeg, .inr (.inr (.inr (.inr (fun i => if i < n.toNatClampNeg then some (H.size + 1 + i) else none))))))]) F.heap := hP0.app (fun k9 x hx => by
    have h0 : k9 < 1 := (List.getElem?_eq_some_iff.mp hx).1
    rw [show k9 = 0 by omega] at hx
    cases hx
    exact f2)
  have hP2 : va_P D cl (((X ++ va_pl L f) ++ [(H.size, .inl (cA, n.toNatClampNeg, .inr (.inr (.inr (.inr (fun i => if i < n.toNatClampNeg then some (H.size + 1 + i) else none))))))]) ++ ((List.range n.toNatClampNeg).map (fun i => H.size + 1 + i)).map (fun a => (a, .inl (cy, z)))) F.heap := hP1.app (fun k9 x hx => by
    obtain ⟨a, ha, rfl⟩ := List.mem_map.mp (List.mem_of_getElem? hx)
    obtain ⟨i, hi, rfl⟩ := List.mem_map.mp ha
    exact hrow i (List.mem_range.mp hi))
  have hD2 : va_D A (((X ++ va_pl L f) ++ [(H.size, .inl (cA, n.toNatClampNeg, .inr (.inr (.inr (.inr (fun i => if i < n.toNatClampNeg then some (H.size + 1 + i) else none))))))]) ++ ((List.range n.toNatClampNeg).map (fun i => H.size + 1 + i)).map (fun a => (a, .inl (cy, z)))) := by
    have hD1 := hD.push (e := .inl (cA, n.toNatClampNeg, .inr (.inr (.inr (.inr (fun i => if i < n.toNatClampNeg then some (H.size + 1 + i) else none)))))) hP rfl (hA _ hS.1)
    generalize hW1 : (X ++ va_pl L f) ++ [(H.size, .inl (cA, n.toNatClampNeg, .inr (.inr (.inr (.inr (fun i => if i < n.toNatClampNeg then some (H.size + 1 + i) else none))))))] = W1 at hD1 hP1 ⊢
    have hle : ∀ (k9 : Nat) (x : Nat × va_E), W1[k9]? = some x → x.1 ≤ H.size := fun k9 x hx => by
      rw [← hW1] at hx
      by_cases hl : k9 < (X ++ va_pl L f).length
      · rw [List.getElem?_append_left hl] at hx
        exact Nat.le_of_lt ((hP k9 x hx).lt)
      · rw [List.getElem?_append_right (by omega)] at hx
        have h0 : k9 - (X ++ va_pl L f).length < 1 := (List.getElem?_eq_some_iff.mp hx).1
        rw [show k9 - (X ++ va_pl L f).length = 0 by omega] at hx
        cases hx
        exact Nat.le_refl _
    have hr : ∀ (k9 : Nat) (x : Nat × va_E), (((List.range n.toNatClampNeg).map (fun i => H.size + 1 + i)).map (fun a => ((a, .inl (cy, z)) : Nat × va_E)))[k9]? = some x → x.1 = H.size + 1 + k9 := fun k9 x hx => by
      rw [List.getElem?_map, List.getElem?_map] at hx
      by_cases h9 : k9 < n.toNatClampNeg
      · rw [List.getElem?_range h9] at hx
        cases hx
        rfl
      · have hn0 : (List.range n.toNatClampNeg)[k9]? = none := List.getElem?_eq_none (by rw [List.length_range]; omega)
        rw [hn0] at hx
        cases hx
    refine ⟨fun i j x y hi hj hxy => ?_, fun k9 x hx => ?_⟩
    · by_cases h1 : i < W1.length <;> by_cases h2 : j < W1.length
      · rw [List.getElem?_append_left h1] at hi
        rw [List.getElem?_append_left h2] at hj
        exact hD1.1 i j x y hi hj hxy
      · rw [List.getElem?_append_left h1] at hi
        rw [List.getElem?_append_right (by omega)] at hj
        have := hle _ _ hi
        have := hr _ _ hj
        omega
      · rw [List.getElem?_append_right (by omega)] at hi
        rw [List.getElem?_append_left h2] at hj
        have := hle _ _ hj
        have := hr _ _ hi
        omega
      · rw [List.getElem?_append_right (by omega)] at hi hj
        have := hr _ _ hi
        have := hr _ _ hj
        omega
    · by_cases h1 : k9 < W1.length
      · rw [List.getElem?_append_left h1] at hx
        exact hD1.2 k9 x hx
      · rw [List.getElem?_append_right (by omega)] at hx
        have := hr _ _ hx
        exact hA _ (by have := hS.1; omega)
  have hAr : ArrOfT s cA (.array ty) := fun N9 z9 => by
    obtain ⟨-, k9, hk9, cm9, hkk9⟩ := (hO 0 0 0).1
    exact ⟨(fun q hq => by cases hq), k9, hk9, cm9, hkk9⟩
  have hK2 : va_K D cl (tys ++ [(cA, .array ty)]) s := ⟨hK.1, fun k9 x hx => by
    by_cases hl : k9 < tys.length
    · rw [List.getElem?_append_left hl] at hx
      exact hK.2 k9 x hx
    · rw [List.getElem?_append_right (by omega)] at hx
      have h0 : k9 - tys.length < 1 := (List.getElem?_eq_some_iff.mp hx).1
      rw [show k9 - tys.length = 0 by omega] at hx
      cases hx
      exact ⟨hAr, fA⟩⟩
  obtain ⟨t, a1, b1⟩ := kk H.size (fun i => H.size + 1 + i) cA F.heap (fun i j _ _ h => by have h9 : H.size + 1 + i = H.size + 1 + j := h; omega) hnl hK2 (by rw [← vr_rows hnm]; exact vr_lay hP2) (by rw [← vr_rows hnm]; exact vr_layD hD2) ⟨by rw [f1]; have := hS.1; omega, fun x h1 h2 => (hold x (Nat.lt_of_lt_of_le h1 hS.1)).trans (hS.2.1 x h1 h2), hS.2.2⟩ F rfl X'
  refine ⟨t, step t ?_, b1⟩
  have e : T.heap.size = H.size := by rw [hT]
  rw [e]
  exact a1
end VGM
/-! ===== END ===== -/

def RX0 : String := "WaxCloth$Baths"
def TX0 : u_T := fun k => match k with
  | 0 => ("WaxCloth$Baths", "found", "I", false)
  | 1 => ("WaxCloth$Baths", "unlike", "I", false)
  | 2 => ("WaxCloth$Baths", "first", "[I", true)
  | 3 => ("WaxCloth$Baths", "row", "[I", true)
  | _ => ("WaxCloth$Baths", "seen", "[J", true)
def tyX0 : Nat → FieldType := fun k => match k with
  | 0 => .int
  | 1 => .int
  | 2 => .array .int
  | 3 => .array .int
  | _ => .array .long
abbrev wsX00 : List Cond := u_ws RX0 TX0 5
theorem nmX0 : ∀ a, a < 5 → ∀ b, b < 5 → a ≠ b → (TX0 a).2.1 ≠ (TX0 b).2.1 := by decide +kernel
theorem tyX0_ok : ∀ k, k < 5 → parseFieldDescriptor (TX0 k).2.2.1 = some (tyX0 k) := by decide +kernel
abbrev cX0_init : ByteArray := prog_2_method_1_code
def yX0_init : MethodName := ⟨RX0, "<init>", "()V"⟩
abbrev cX0_walk : ByteArray := prog_2_method_2_code
def yX0_walk : MethodName := ⟨RX0, "walk", "(LWaxCloth$Cloth;III)V"⟩
abbrev cX0_bathe : ByteArray := prog_2_method_3_code
def yX0_bathe : MethodName := ⟨RX0, "bathe", "(LWaxCloth$Cloth;IIIII)V"⟩
abbrev cX0_note : ByteArray := prog_2_method_4_code
def yX0_note : MethodName := ⟨RX0, "note", "(III)V"⟩
def RX1 : String := "WaxCloth$Chances"
def TX1 : u_T := fun k => match k with
  | 0 => ("WaxCloth$Chances", "above", "I", false)
  | 1 => ("WaxCloth$Chances", "below", "I", false)
  | 2 => ("WaxCloth$Chances", "dark", "I", false)
  | 3 => ("WaxCloth$Chances", "rights", "I", false)
  | 4 => ("WaxCloth$Chances", "weights", "[I", true)
  | _ => ("WaxCloth$Chances", "states", "[I", true)
def tyX1 : Nat → FieldType := fun k => match k with
  | 0 => .int
  | 1 => .int
  | 2 => .int
  | 3 => .int
  | 4 => .array .int
  | _ => .array .int
abbrev wsX10 : List Cond := u_ws RX1 TX1 6
theorem nmX1 : ∀ a, a < 6 → ∀ b, b < 6 → a ≠ b → (TX1 a).2.1 ≠ (TX1 b).2.1 := by decide +kernel
theorem tyX1_ok : ∀ k, k < 6 → parseFieldDescriptor (TX1 k).2.2.1 = some (tyX1 k) := by decide +kernel
abbrev cX1_init : ByteArray := prog_3_method_1_code
def yX1_init : MethodName := ⟨RX1, "<init>", "()V"⟩
abbrev cX1_crack : ByteArray := prog_3_method_2_code
def yX1_crack : MethodName := ⟨RX1, "crack", "(LWaxCloth$Cloth;III)V"⟩
abbrev cX1_weigh : ByteArray := prog_3_method_3_code
def yX1_weigh : MethodName := ⟨RX1, "weigh", "(II)V"⟩
abbrev cX1_draw : ByteArray := prog_3_method_4_code
def yX1_draw : MethodName := ⟨RX1, "draw", "(LWaxCloth$Cloth;II)V"⟩
abbrev cX1_greatestCommon : ByteArray := prog_3_method_5_code
def yX1_greatestCommon : MethodName := ⟨RX1, "greatestCommon", "(II)I"⟩
def RX2 : String := "WaxCloth$Cloth"
def TX2 : u_T := fun k => match k with
  | 0 => ("WaxCloth$Cloth", "squares", "I", false)
  | 1 => ("WaxCloth$Cloth", "dyes", "I", false)
  | 2 => ("WaxCloth$Cloth", "stencils", "I", false)
  | 3 => ("WaxCloth$Cloth", "doings", "I", false)
  | 4 => ("WaxCloth$Cloth", "kindOf", "[I", true)
  | 5 => ("WaxCloth$Cloth", "wished", "[I", true)
  | 6 => ("WaxCloth$Cloth", "states", "[I", true)
  | 7 => ("WaxCloth$Cloth", "dyeAmounts", "[I", true)
  | _ => ("WaxCloth$Cloth", "stencilSets", "[I", true)
def tyX2 : Nat → FieldType := fun k => match k with
  | 0 => .int
  | 1 => .int
  | 2 => .int
  | 3 => .int
  | 4 => .array .int
  | 5 => .array .int
  | 6 => .array .int
  | 7 => .array .int
  | _ => .array .int
abbrev wsX20 : List Cond := u_ws RX2 TX2 9
theorem nmX2 : ∀ a, a < 9 → ∀ b, b < 9 → a ≠ b → (TX2 a).2.1 ≠ (TX2 b).2.1 := by decide +kernel
theorem tyX2_ok : ∀ k, k < 9 → parseFieldDescriptor (TX2 k).2.2.1 = some (tyX2 k) := by decide +kernel
abbrev cX2_init : ByteArray := prog_4_method_1_code
def yX2_init : MethodName := ⟨RX2, "<init>", "()V"⟩
abbrev cX2_stands : ByteArray := prog_4_method_2_code
def yX2_stands : MethodName := ⟨RX2, "stands", "()Z"⟩
abbrev cX2_become : ByteArray := prog_4_method_3_code
def yX2_become : MethodName := ⟨RX2, "become", "(LWaxCloth$Cloth;)V"⟩
abbrev cX2_hasSquare : ByteArray := prog_4_method_4_code
def yX2_hasSquare : MethodName := ⟨RX2, "hasSquare", "(I)Z"⟩
abbrev cX2_hasDye : ByteArray := prog_4_method_5_code
def yX2_hasDye : MethodName := ⟨RX2, "hasDye", "(I)Z"⟩
abbrev cX2_hasStencil : ByteArray := prog_4_method_6_code
def yX2_hasStencil : MethodName := ⟨RX2, "hasStencil", "(I)Z"⟩
abbrev cX2_hasDoing : ByteArray := prog_4_method_7_code
def yX2_hasDoing : MethodName := ⟨RX2, "hasDoing", "(J)Z"⟩
abbrev cX2_doingCount : ByteArray := prog_4_method_8_code
def yX2_doingCount : MethodName := ⟨RX2, "doingCount", "()I"⟩
abbrev cX2_nthDoing : ByteArray := prog_4_method_9_code
def yX2_nthDoing : MethodName := ⟨RX2, "nthDoing", "(I)I"⟩
abbrev cX2_amountInDye : ByteArray := prog_4_method_10_code
def yX2_amountInDye : MethodName := ⟨RX2, "amountInDye", "(II)I"⟩
abbrev cX2_gain : ByteArray := prog_4_method_11_code
def yX2_gain : MethodName := ⟨RX2, "gain", "(IIII)I"⟩
abbrev cX2_after : ByteArray := prog_4_method_12_code
def yX2_after : MethodName := ⟨RX2, "after", "(III)I"⟩
abbrev cX2_dyed : ByteArray := prog_4_method_13_code
def yX2_dyed : MethodName := ⟨RX2, "dyed", "(III)I"⟩
abbrev cX2_cracked : ByteArray := prog_4_method_14_code
def yX2_cracked : MethodName := ⟨RX2, "cracked", "(II)I"⟩
abbrev cX2_rinsed : ByteArray := prog_4_method_15_code
def yX2_rinsed : MethodName := ⟨RX2, "rinsed", "(I)I"⟩
abbrev cX2_afterRow : ByteArray := prog_4_method_16_code
def yX2_afterRow : MethodName := ⟨RX2, "afterRow", "(II[II)I"⟩
abbrev cX2_apply : ByteArray := prog_4_method_17_code
def yX2_apply : MethodName := ⟨RX2, "apply", "(I[I[I)Z"⟩
abbrev cX2_isRight : ByteArray := prog_4_method_18_code
def yX2_isRight : MethodName := ⟨RX2, "isRight", "(II)Z"⟩
abbrev cX2_rightSet : ByteArray := prog_4_method_19_code
def yX2_rightSet : MethodName := ⟨RX2, "rightSet", "([I)I"⟩
abbrev cX2_rightCount : ByteArray := prog_4_method_20_code
def yX2_rightCount : MethodName := ⟨RX2, "rightCount", "([I)I"⟩
abbrev cX2_darknessOf : ByteArray := prog_4_method_21_code
def yX2_darknessOf : MethodName := ⟨RX2, "darknessOf", "([I)I"⟩
abbrev cX2_waxedSet : ByteArray := prog_4_method_22_code
def yX2_waxedSet : MethodName := ⟨RX2, "waxedSet", "()I"⟩
def RX3 : String := "WaxCloth$Kind"
def TX3 : u_T := fun k => match k with
  | _ => ("", "", "", false)
def tyX3 : Nat → FieldType := fun k => match k with
  | _ => .int
abbrev wsX30 : List Cond := u_ws RX3 TX3 0
theorem nmX3 : ∀ a, a < 0 → ∀ b, b < 0 → a ≠ b → (TX3 a).2.1 ≠ (TX3 b).2.1 := by decide +kernel
theorem tyX3_ok : ∀ k, k < 0 → parseFieldDescriptor (TX3 k).2.2.1 = some (tyX3 k) := by decide +kernel
abbrev cX3_ofLetter : ByteArray := prog_5_method_2_code
def yX3_ofLetter : MethodName := ⟨RX3, "ofLetter", "(I)I"⟩
abbrev cX3_isUnder : ByteArray := prog_5_method_3_code
def yX3_isUnder : MethodName := ⟨RX3, "isUnder", "(II)Z"⟩
abbrev cX3_taken : ByteArray := prog_5_method_4_code
def yX3_taken : MethodName := ⟨RX3, "taken", "(III)I"⟩
abbrev cX3_layersCracked : ByteArray := prog_5_method_5_code
def yX3_layersCracked : MethodName := ⟨RX3, "layersCracked", "(I)I"⟩
abbrev cX3_thatTake : ByteArray := prog_5_method_6_code
def yX3_thatTake : MethodName := ⟨RX3, "thatTake", "(IIIJ)I"⟩
abbrev cX3_bestTry : ByteArray := prog_5_method_7_code
def yX3_bestTry : MethodName := ⟨RX3, "bestTry", "(II)I"⟩
abbrev cX3_greatestPart : ByteArray := prog_5_method_8_code
def yX3_greatestPart : MethodName := ⟨RX3, "greatestPart", "(III)I"⟩
def RX4 : String := "WaxCloth$Past"
def TX4 : u_T := fun k => match k with
  | 0 => ("WaxCloth$Past", "held", "I", false)
  | 1 => ("WaxCloth$Past", "next", "I", false)
  | _ => ("WaxCloth$Past", "ring", "[[I", true)
def tyX4 : Nat → FieldType := fun k => match k with
  | 0 => .int
  | 1 => .int
  | _ => .array (.array .int)
abbrev wsX40 : List Cond := u_ws RX4 TX4 3
theorem nmX4 : ∀ a, a < 3 → ∀ b, b < 3 → a ≠ b → (TX4 a).2.1 ≠ (TX4 b).2.1 := by decide +kernel
theorem tyX4_ok : ∀ k, k < 3 → parseFieldDescriptor (TX4 k).2.2.1 = some (tyX4 k) := by decide +kernel
abbrev cX4_init : ByteArray := prog_6_method_1_code
def yX4_init : MethodName := ⟨RX4, "<init>", "()V"⟩
abbrev cX4_forget : ByteArray := prog_6_method_2_code
def yX4_forget : MethodName := ⟨RX4, "forget", "()V"⟩
abbrev cX4_keep : ByteArray := prog_6_method_3_code
def yX4_keep : MethodName := ⟨RX4, "keep", "([I)V"⟩
abbrev cX4_takeBack : ByteArray := prog_6_method_4_code
def yX4_takeBack : MethodName := ⟨RX4, "takeBack", "([I)Z"⟩
def RX5 : String := "WaxCloth$Planner"
def TX5 : u_T := fun k => match k with
  | 0 => ("WaxCloth$Planner", "bestRight", "I", false)
  | 1 => ("WaxCloth$Planner", "bestLength", "I", false)
  | 2 => ("WaxCloth$Planner", "best", "[I", true)
  | 3 => ("WaxCloth$Planner", "row", "[I", true)
  | _ => ("WaxCloth$Planner", "levels", "[[I", true)
def tyX5 : Nat → FieldType := fun k => match k with
  | 0 => .int
  | 1 => .int
  | 2 => .array .int
  | 3 => .array .int
  | _ => .array (.array .int)
abbrev wsX50 : List Cond := u_ws RX5 TX5 5
theorem nmX5 : ∀ a, a < 5 → ∀ b, b < 5 → a ≠ b → (TX5 a).2.1 ≠ (TX5 b).2.1 := by decide +kernel
theorem tyX5_ok : ∀ k, k < 5 → parseFieldDescriptor (TX5 k).2.2.1 = some (tyX5 k) := by decide +kernel
abbrev cX5_init : ByteArray := prog_7_method_1_code
def yX5_init : MethodName := ⟨RX5, "<init>", "()V"⟩
abbrev cX5_search : ByteArray := prog_7_method_2_code
def yX5_search : MethodName := ⟨RX5, "search", "(LWaxCloth$Cloth;I)V"⟩
abbrev cX5_extend : ByteArray := prog_7_method_3_code
def yX5_extend : MethodName := ⟨RX5, "extend", "(LWaxCloth$Cloth;II)V"⟩
abbrev cX5_isWaxOnly : ByteArray := prog_7_method_4_code
def yX5_isWaxOnly : MethodName := ⟨RX5, "isWaxOnly", "(I)Z"⟩
abbrev cX5_judge : ByteArray := prog_7_method_5_code
def yX5_judge : MethodName := ⟨RX5, "judge", "(II)V"⟩
def RX6 : String := "WaxCloth$Reader"
def TX6 : u_T := fun k => match k with
  | 0 => ("WaxCloth$Reader", "result", "LWaxCloth$Cloth;", true)
  | 1 => ("WaxCloth$Reader", "place", "I", false)
  | _ => ("WaxCloth$Reader", "source", "LWaxCloth$Tape;", true)
def tyX6 : Nat → FieldType := fun k => match k with
  | 0 => .object "WaxCloth$Cloth"
  | 1 => .int
  | _ => .object "WaxCloth$Tape"
abbrev wsX60 : List Cond := u_ws RX6 TX6 3
theorem nmX6 : ∀ a, a < 3 → ∀ b, b < 3 → a ≠ b → (TX6 a).2.1 ≠ (TX6 b).2.1 := by decide +kernel
theorem tyX6_ok : ∀ k, k < 3 → parseFieldDescriptor (TX6 k).2.2.1 = some (tyX6 k) := by decide +kernel
abbrev cX6_init : ByteArray := prog_8_method_1_code
def yX6_init : MethodName := ⟨RX6, "<init>", "(LWaxCloth$Tape;)V"⟩
abbrev cX6_read : ByteArray := prog_8_method_2_code
def yX6_read : MethodName := ⟨RX6, "read", "()Z"⟩
abbrev cX6_sign : ByteArray := prog_8_method_3_code
def yX6_sign : MethodName := ⟨RX6, "sign", "(I)Z"⟩
abbrev cX6_figure : ByteArray := prog_8_method_4_code
def yX6_figure : MethodName := ⟨RX6, "figure", "(II)I"⟩
abbrev cX6_readSquares : ByteArray := prog_8_method_5_code
def yX6_readSquares : MethodName := ⟨RX6, "readSquares", "()Z"⟩
abbrev cX6_readSquare : ByteArray := prog_8_method_6_code
def yX6_readSquare : MethodName := ⟨RX6, "readSquare", "(I)Z"⟩
abbrev cX6_readDyes : ByteArray := prog_8_method_7_code
def yX6_readDyes : MethodName := ⟨RX6, "readDyes", "()Z"⟩
abbrev cX6_readDye : ByteArray := prog_8_method_8_code
def yX6_readDye : MethodName := ⟨RX6, "readDye", "(I)Z"⟩
abbrev cX6_readStencils : ByteArray := prog_8_method_9_code
def yX6_readStencils : MethodName := ⟨RX6, "readStencils", "()Z"⟩
abbrev cX6_readStencil : ByteArray := prog_8_method_10_code
def yX6_readStencil : MethodName := ⟨RX6, "readStencil", "()I"⟩
def RX7 : String := "WaxCloth$Rounds"
def TX7 : u_T := fun k => match k with
  | 0 => ("WaxCloth$Rounds", "lead", "I", false)
  | _ => ("WaxCloth$Rounds", "lap", "I", false)
def tyX7 : Nat → FieldType := fun k => match k with
  | 0 => .int
  | _ => .int
abbrev wsX70 : List Cond := u_ws RX7 TX7 2
theorem nmX7 : ∀ a, a < 2 → ∀ b, b < 2 → a ≠ b → (TX7 a).2.1 ≠ (TX7 b).2.1 := by decide +kernel
theorem tyX7_ok : ∀ k, k < 2 → parseFieldDescriptor (TX7 k).2.2.1 = some (tyX7 k) := by decide +kernel
abbrev cX7_init : ByteArray := prog_9_method_1_code
def yX7_init : MethodName := ⟨RX7, "<init>", "()V"⟩
abbrev cX7_measure : ByteArray := prog_9_method_2_code
def yX7_measure : MethodName := ⟨RX7, "measure", "(LWaxCloth$Cloth;[II)V"⟩
abbrev cX7_lapOf : ByteArray := prog_9_method_3_code
def yX7_lapOf : MethodName := ⟨RX7, "lapOf", "(LWaxCloth$Cloth;I[II)I"⟩
abbrev cX7_leadOf : ByteArray := prog_9_method_4_code
def yX7_leadOf : MethodName := ⟨RX7, "leadOf", "(LWaxCloth$Cloth;I[III)I"⟩
def RX8 : String := "WaxCloth$Sheet"
def TX8 : u_T := fun k => match k with
  | 0 => ("WaxCloth$Sheet", "lane", "I", false)
  | 1 => ("WaxCloth$Sheet", "size", "I", false)
  | _ => ("WaxCloth$Sheet", "items", "[J", true)
def tyX8 : Nat → FieldType := fun k => match k with
  | 0 => .int
  | 1 => .int
  | _ => .array .long
abbrev wsX80 : List Cond := u_ws RX8 TX8 3
theorem nmX8 : ∀ a, a < 3 → ∀ b, b < 3 → a ≠ b → (TX8 a).2.1 ≠ (TX8 b).2.1 := by decide +kernel
theorem tyX8_ok : ∀ k, k < 3 → parseFieldDescriptor (TX8 k).2.2.1 = some (tyX8 k) := by decide +kernel
abbrev cX8_init : ByteArray := prog_10_method_1_code
def yX8_init : MethodName := ⟨RX8, "<init>", "()V"⟩
abbrev cX8_isLane : ByteArray := prog_10_method_2_code
def yX8_isLane : MethodName := ⟨RX8, "isLane", "(I)Z"⟩
abbrev cX8_isNothing : ByteArray := prog_10_method_3_code
def yX8_isNothing : MethodName := ⟨RX8, "isNothing", "()Z"⟩
abbrev cX8_begin : ByteArray := prog_10_method_4_code
def yX8_begin : MethodName := ⟨RX8, "begin", "(II)V"⟩
abbrev cX8_end : ByteArray := prog_10_method_5_code
def yX8_end : MethodName := ⟨RX8, "end", "()I"⟩
abbrev cX8_holds : ByteArray := prog_10_method_6_code
def yX8_holds : MethodName := ⟨RX8, "holds", "(II)Z"⟩
abbrev cX8_refusal : ByteArray := prog_10_method_7_code
def yX8_refusal : MethodName := ⟨RX8, "refusal", "(III)I"⟩
abbrev cX8_put : ByteArray := prog_10_method_8_code
def yX8_put : MethodName := ⟨RX8, "put", "(IJ)J"⟩
def RX9 : String := "WaxCloth$State"
def TX9 : u_T := fun k => match k with
  | _ => ("", "", "", false)
def tyX9 : Nat → FieldType := fun k => match k with
  | _ => .int
abbrev wsX90 : List Cond := u_ws RX9 TX9 0
theorem nmX9 : ∀ a, a < 0 → ∀ b, b < 0 → a ≠ b → (TX9 a).2.1 ≠ (TX9 b).2.1 := by decide +kernel
theorem tyX9_ok : ∀ k, k < 0 → parseFieldDescriptor (TX9 k).2.2.1 = some (tyX9 k) := by decide +kernel
abbrev cX9_isColour : ByteArray := prog_11_method_2_code
def yX9_isColour : MethodName := ⟨RX9, "isColour", "(I)Z"⟩
abbrev cX9_isAmount : ByteArray := prog_11_method_3_code
def yX9_isAmount : MethodName := ⟨RX9, "isAmount", "(I)Z"⟩
abbrev cX9_ofShade : ByteArray := prog_11_method_4_code
def yX9_ofShade : MethodName := ⟨RX9, "ofShade", "(III)I"⟩
abbrev cX9_amountOf : ByteArray := prog_11_method_5_code
def yX9_amountOf : MethodName := ⟨RX9, "amountOf", "(II)I"⟩
abbrev cX9_withMore : ByteArray := prog_11_method_6_code
def yX9_withMore : MethodName := ⟨RX9, "withMore", "(III)I"⟩
abbrev cX9_waxIn : ByteArray := prog_11_method_7_code
def yX9_waxIn : MethodName := ⟨RX9, "waxIn", "(I)I"⟩
abbrev cX9_withWax : ByteArray := prog_11_method_8_code
def yX9_withWax : MethodName := ⟨RX9, "withWax", "(II)I"⟩
abbrev cX9_hueOf : ByteArray := prog_11_method_9_code
def yX9_hueOf : MethodName := ⟨RX9, "hueOf", "(I)I"⟩
abbrev cX9_darkness : ByteArray := prog_11_method_10_code
def yX9_darkness : MethodName := ⟨RX9, "darkness", "(I)I"⟩
def RX10 : String := "WaxCloth$Tape"
def TX10 : u_T := fun k => match k with
  | 0 => ("WaxCloth$Tape", "length", "I", false)
  | _ => ("WaxCloth$Tape", "bytes", "[I", true)
def tyX10 : Nat → FieldType := fun k => match k with
  | 0 => .int
  | _ => .array .int
abbrev wsX100 : List Cond := u_ws RX10 TX10 2
theorem nmX10 : ∀ a, a < 2 → ∀ b, b < 2 → a ≠ b → (TX10 a).2.1 ≠ (TX10 b).2.1 := by decide +kernel
theorem tyX10_ok : ∀ k, k < 2 → parseFieldDescriptor (TX10 k).2.2.1 = some (tyX10 k) := by decide +kernel
abbrev cX10_init : ByteArray := prog_12_method_1_code
def yX10_init : MethodName := ⟨RX10, "<init>", "()V"⟩
abbrev cX10_put : ByteArray := prog_12_method_2_code
def yX10_put : MethodName := ⟨RX10, "put", "(I)Z"⟩
abbrev cX10_at : ByteArray := prog_12_method_3_code
def yX10_at : MethodName := ⟨RX10, "at", "(I)I"⟩
def RX11 : String := "WaxCloth"
def TX11 : u_T := fun k => match k with
  | 0 => ("WaxCloth", "tape", "LWaxCloth$Tape;", true)
  | 1 => ("WaxCloth", "reader", "LWaxCloth$Reader;", true)
  | 2 => ("WaxCloth", "now", "LWaxCloth$Cloth;", true)
  | 3 => ("WaxCloth", "past", "LWaxCloth$Past;", true)
  | 4 => ("WaxCloth", "kept", "[LWaxCloth$Cloth;", true)
  | 5 => ("WaxCloth", "shelf", "[LWaxCloth$Sheet;", true)
  | 6 => ("WaxCloth", "planner", "LWaxCloth$Planner;", true)
  | 7 => ("WaxCloth", "baths", "LWaxCloth$Baths;", true)
  | 8 => ("WaxCloth", "chances", "LWaxCloth$Chances;", true)
  | 9 => ("WaxCloth", "rounds", "LWaxCloth$Rounds;", true)
  | _ => ("WaxCloth", "doingRow", "[I", true)
def tyX11 : Nat → FieldType := fun k => match k with
  | 0 => .object "WaxCloth$Tape"
  | 1 => .object "WaxCloth$Reader"
  | 2 => .object "WaxCloth$Cloth"
  | 3 => .object "WaxCloth$Past"
  | 4 => .array (.object "WaxCloth$Cloth")
  | 5 => .array (.object "WaxCloth$Sheet")
  | 6 => .object "WaxCloth$Planner"
  | 7 => .object "WaxCloth$Baths"
  | 8 => .object "WaxCloth$Chances"
  | 9 => .object "WaxCloth$Rounds"
  | _ => .array .int
abbrev wsX110 : List Cond := u_ws RX11 TX11 11
theorem nmX11 : ∀ a, a < 11 → ∀ b, b < 11 → a ≠ b → (TX11 a).2.1 ≠ (TX11 b).2.1 := by decide +kernel
theorem tyX11_ok : ∀ k, k < 11 → parseFieldDescriptor (TX11 k).2.2.1 = some (tyX11 k) := by decide +kernel
abbrev cX11_init : ByteArray := prog_1_method_1_code
def yX11_init : MethodName := ⟨RX11, "<init>", "()V"⟩
abbrev cX11_feed : ByteArray := prog_1_method_2_code
def yX11_feed : MethodName := ⟨RX11, "feed", "(I)I"⟩
abbrev cX11_cloth : ByteArray := prog_1_method_3_code
def yX11_cloth : MethodName := ⟨RX11, "cloth", "()I"⟩
abbrev cX11_square : ByteArray := prog_1_method_4_code
def yX11_square : MethodName := ⟨RX11, "square", "(II)I"⟩
abbrev cX11_as : ByteArray := prog_1_method_5_code
def yX11_as : MethodName := ⟨RX11, "as", "(II)I"⟩
abbrev cX11_dye : ByteArray := prog_1_method_6_code
def yX11_dye : MethodName := ⟨RX11, "dye", "(II)I"⟩
abbrev cX11_stencil : ByteArray := prog_1_method_7_code
def yX11_stencil : MethodName := ⟨RX11, "stencil", "(I)I"⟩
abbrev cX11_takes : ByteArray := prog_1_method_8_code
def yX11_takes : MethodName := ⟨RX11, "takes", "(III)I"⟩
abbrev cX11_does : ByteArray := prog_1_method_9_code
def yX11_does : MethodName := ⟨RX11, "does", "(I)I"⟩
abbrev cX11_undo : ByteArray := prog_1_method_10_code
def yX11_undo : MethodName := ⟨RX11, "undo", "()I"⟩
abbrev cX11_wish : ByteArray := prog_1_method_11_code
def yX11_wish : MethodName := ⟨RX11, "wish", "(II)I"⟩
abbrev cX11_image : ByteArray := prog_1_method_12_code
def yX11_image : MethodName := ⟨RX11, "image", "(I)I"⟩
abbrev cX11_restore : ByteArray := prog_1_method_13_code
def yX11_restore : MethodName := ⟨RX11, "restore", "(I)I"⟩
abbrev cX11_plan : ByteArray := prog_1_method_14_code
def yX11_plan : MethodName := ⟨RX11, "plan", "(II)I"⟩
abbrev cX11_rows : ByteArray := prog_1_method_15_code
def yX11_rows : MethodName := ⟨RX11, "rows", "(IIIIII)I"⟩
abbrev cX11_shades : ByteArray := prog_1_method_16_code
def yX11_shades : MethodName := ⟨RX11, "shades", "(II)I"⟩
abbrev cX11_cracks : ByteArray := prog_1_method_17_code
def yX11_cracks : MethodName := ⟨RX11, "cracks", "(IIII)I"⟩
abbrev cX11_decades : ByteArray := prog_1_method_18_code
def yX11_decades : MethodName := ⟨RX11, "decades", "(III)I"⟩
abbrev cX11_sheet : ByteArray := prog_1_method_19_code
def yX11_sheet : MethodName := ⟨RX11, "sheet", "(III)I"⟩
abbrev cX11_drop : ByteArray := prog_1_method_20_code
def yX11_drop : MethodName := ⟨RX11, "drop", "(I)I"⟩
abbrev cX11_item : ByteArray := prog_1_method_21_code
def yX11_item : MethodName := ⟨RX11, "item", "(IIIJ)J"⟩
abbrev cX11_copy : ByteArray := prog_1_method_22_code
def yX11_copy : MethodName := ⟨RX11, "copy", "(IIIII)I"⟩
abbrev cX11_log : ByteArray := prog_1_method_23_code
def yX11_log : MethodName := ⟨RX11, "log", "(III)I"⟩
abbrev cX11_ahead : ByteArray := prog_1_method_24_code
def yX11_ahead : MethodName := ⟨RX11, "ahead", "(IIIIII)I"⟩
abbrev cX11_round : ByteArray := prog_1_method_25_code
def yX11_round : MethodName := ⟨RX11, "round", "(IIIII)I"⟩
abbrev cX11_kinds : ByteArray := prog_1_method_26_code
def yX11_kinds : MethodName := ⟨RX11, "kinds", "(IIIII)I"⟩
abbrev cX11_wishes : ByteArray := prog_1_method_27_code
def yX11_wishes : MethodName := ⟨RX11, "wishes", "(III)I"⟩
abbrev cX11_count : ByteArray := prog_1_method_28_code
def yX11_count : MethodName := ⟨RX11, "count", "(I)I"⟩
abbrev cX11_isSheet : ByteArray := prog_1_method_29_code
def yX11_isSheet : MethodName := ⟨RX11, "isSheet", "(I)Z"⟩
abbrev cX11_takeDoings : ByteArray := prog_1_method_30_code
def yX11_takeDoings : MethodName := ⟨RX11, "takeDoings", "(IIII)I"⟩
abbrev cX11_areTriples : ByteArray := prog_1_method_31_code
def yX11_areTriples : MethodName := ⟨RX11, "areTriples", "(LWaxCloth$Sheet;II)Z"⟩
abbrev cX11_kindsByTriples : ByteArray := prog_1_method_32_code
def yX11_kindsByTriples : MethodName := ⟨RX11, "kindsByTriples", "(LWaxCloth$Sheet;II)I"⟩
def RX12 : String := "WaxClothModel"
def TX12 : u_T := fun k => match k with
  | 0 => ("WaxClothModel", "cloth", "[I", true)
  | 1 => ("WaxClothModel", "read", "[I", true)
  | 2 => ("WaxClothModel", "readWish", "[I", true)
  | 3 => ("WaxClothModel", "now", "[I", true)
  | 4 => ("WaxClothModel", "aside", "[I", true)
  | 5 => ("WaxClothModel", "doings", "I", false)
  | 6 => ("WaxClothModel", "past", "[I", true)
  | 7 => ("WaxClothModel", "undos", "I", false)
  | 8 => ("WaxClothModel", "images", "[I", true)
  | 9 => ("WaxClothModel", "isKept", "[Z", true)
  | 10 => ("WaxClothModel", "tape", "[I", true)
  | 11 => ("WaxClothModel", "fed", "I", false)
  | 12 => ("WaxClothModel", "sizes", "[I", true)
  | 13 => ("WaxClothModel", "lanes", "[I", true)
  | 14 => ("WaxClothModel", "items", "[J", true)
  | 15 => ("WaxClothModel", "at", "I", false)
  | 16 => ("WaxClothModel", "value", "I", false)
  | 17 => ("WaxClothModel", "met", "[Z", true)
  | 18 => ("WaxClothModel", "weights", "[J", true)
  | 19 => ("WaxClothModel", "since", "[I", true)
  | 20 => ("WaxClothModel", "roundsAhead", "I", false)
  | _ => ("WaxClothModel", "length", "I", false)
def tyX12 : Nat → FieldType := fun k => match k with
  | 0 => .array .int
  | 1 => .array .int
  | 2 => .array .int
  | 3 => .array .int
  | 4 => .array .int
  | 5 => .int
  | 6 => .array .int
  | 7 => .int
  | 8 => .array .int
  | 9 => .array .boolean
  | 10 => .array .int
  | 11 => .int
  | 12 => .array .int
  | 13 => .array .int
  | 14 => .array .long
  | 15 => .int
  | 16 => .int
  | 17 => .array .boolean
  | 18 => .array .long
  | 19 => .array .int
  | 20 => .int
  | _ => .int
abbrev wsX120 : List Cond := u_ws RX12 TX12 22
theorem nmX12 : ∀ a, a < 22 → ∀ b, b < 22 → a ≠ b → (TX12 a).2.1 ≠ (TX12 b).2.1 := by decide +kernel
theorem tyX12_ok : ∀ k, k < 22 → parseFieldDescriptor (TX12 k).2.2.1 = some (tyX12 k) := by decide +kernel
abbrev cX12_init : ByteArray := prog_14_method_1_code
def yX12_init : MethodName := ⟨RX12, "<init>", "()V"⟩
abbrev cX12_in : ByteArray := prog_14_method_3_code
def yX12_in : MethodName := ⟨RX12, "in", "(JJJ)Z"⟩
abbrev cX12_has : ByteArray := prog_14_method_4_code
def yX12_has : MethodName := ⟨RX12, "has", "(II)Z"⟩
abbrev cX12_bits : ByteArray := prog_14_method_5_code
def yX12_bits : MethodName := ⟨RX12, "bits", "(I)I"⟩
abbrev cX12_copies : ByteArray := prog_14_method_6_code
def yX12_copies : MethodName := ⟨RX12, "copies", "([II[III)V"⟩
abbrev cX12_less : ByteArray := prog_14_method_7_code
def yX12_less : MethodName := ⟨RX12, "less", "(II)I"⟩
abbrev cX12_feed : ByteArray := prog_14_method_8_code
def yX12_feed : MethodName := ⟨RX12, "feed", "(I)I"⟩
abbrev cX12_here : ByteArray := prog_14_method_9_code
def yX12_here : MethodName := ⟨RX12, "here", "()I"⟩
abbrev cX12_eats : ByteArray := prog_14_method_10_code
def yX12_eats : MethodName := ⟨RX12, "eats", "(I)Z"⟩
abbrev cX12_figure : ByteArray := prog_14_method_11_code
def yX12_figure : MethodName := ⟨RX12, "figure", "(II)Z"⟩
abbrev cX12_kindBy : ByteArray := prog_14_method_12_code
def yX12_kindBy : MethodName := ⟨RX12, "kindBy", "(I)I"⟩
abbrev cX12_readsSquare : ByteArray := prog_14_method_13_code
def yX12_readsSquare : MethodName := ⟨RX12, "readsSquare", "()Z"⟩
abbrev cX12_readsDye : ByteArray := prog_14_method_14_code
def yX12_readsDye : MethodName := ⟨RX12, "readsDye", "()Z"⟩
abbrev cX12_readsStencil : ByteArray := prog_14_method_15_code
def yX12_readsStencil : MethodName := ⟨RX12, "readsStencil", "()Z"⟩
abbrev cX12_another : ByteArray := prog_14_method_16_code
def yX12_another : MethodName := ⟨RX12, "another", "(II)Z"⟩
abbrev cX12_reads : ByteArray := prog_14_method_17_code
def yX12_reads : MethodName := ⟨RX12, "reads", "()Z"⟩
abbrev cX12_cloth : ByteArray := prog_14_method_18_code
def yX12_cloth : MethodName := ⟨RX12, "cloth", "()I"⟩
abbrev cX12_isSquare : ByteArray := prog_14_method_19_code
def yX12_isSquare : MethodName := ⟨RX12, "isSquare", "(I)Z"⟩
abbrev cX12_isDye : ByteArray := prog_14_method_20_code
def yX12_isDye : MethodName := ⟨RX12, "isDye", "(I)Z"⟩
abbrev cX12_hueOf : ByteArray := prog_14_method_21_code
def yX12_hueOf : MethodName := ⟨RX12, "hueOf", "([II)I"⟩
abbrev cX12_darkOf : ByteArray := prog_14_method_22_code
def yX12_darkOf : MethodName := ⟨RX12, "darkOf", "([II)I"⟩
abbrev cX12_isRight : ByteArray := prog_14_method_23_code
def yX12_isRight : MethodName := ⟨RX12, "isRight", "([II)Z"⟩
abbrev cX12_rightOn : ByteArray := prog_14_method_24_code
def yX12_rightOn : MethodName := ⟨RX12, "rightOn", "([I)I"⟩
abbrev cX12_darkAll : ByteArray := prog_14_method_25_code
def yX12_darkAll : MethodName := ⟨RX12, "darkAll", "([I)I"⟩
abbrev cX12_takenBy : ByteArray := prog_14_method_26_code
def yX12_takenBy : MethodName := ⟨RX12, "takenBy", "(III)I"⟩
abbrev cX12_takenOn : ByteArray := prog_14_method_27_code
def yX12_takenOn : MethodName := ⟨RX12, "takenOn", "([IIII)I"⟩
abbrev cX12_cracksOn : ByteArray := prog_14_method_28_code
def yX12_cracksOn : MethodName := ⟨RX12, "cracksOn", "(I)I"⟩
abbrev cX12_bathes : ByteArray := prog_14_method_29_code
def yX12_bathes : MethodName := ⟨RX12, "bathes", "([III)V"⟩
abbrev cX12_rinses : ByteArray := prog_14_method_30_code
def yX12_rinses : MethodName := ⟨RX12, "rinses", "([II)V"⟩
abbrev cX12_isDoing : ByteArray := prog_14_method_31_code
def yX12_isDoing : MethodName := ⟨RX12, "isDoing", "(J)Z"⟩
abbrev cX12_doesOn : ByteArray := prog_14_method_32_code
def yX12_doesOn : MethodName := ⟨RX12, "doesOn", "([III)V"⟩
abbrev cX12_doesAll : ByteArray := prog_14_method_33_code
def yX12_doesAll : MethodName := ⟨RX12, "doesAll", "([II)V"⟩
abbrev cX12_square : ByteArray := prog_14_method_34_code
def yX12_square : MethodName := ⟨RX12, "square", "(II)I"⟩
abbrev cX12_as : ByteArray := prog_14_method_35_code
def yX12_as : MethodName := ⟨RX12, "as", "(II)I"⟩
abbrev cX12_dye : ByteArray := prog_14_method_36_code
def yX12_dye : MethodName := ⟨RX12, "dye", "(II)I"⟩
abbrev cX12_stencil : ByteArray := prog_14_method_37_code
def yX12_stencil : MethodName := ⟨RX12, "stencil", "(I)I"⟩
abbrev cX12_takes : ByteArray := prog_14_method_38_code
def yX12_takes : MethodName := ⟨RX12, "takes", "(III)I"⟩
abbrev cX12_does : ByteArray := prog_14_method_39_code
def yX12_does : MethodName := ⟨RX12, "does", "(I)I"⟩
abbrev cX12_undo : ByteArray := prog_14_method_40_code
def yX12_undo : MethodName := ⟨RX12, "undo", "()I"⟩
abbrev cX12_wish : ByteArray := prog_14_method_41_code
def yX12_wish : MethodName := ⟨RX12, "wish", "(II)I"⟩
abbrev cX12_image : ByteArray := prog_14_method_42_code
def yX12_image : MethodName := ⟨RX12, "image", "(I)I"⟩
abbrev cX12_restore : ByteArray := prog_14_method_43_code
def yX12_restore : MethodName := ⟨RX12, "restore", "(I)I"⟩
abbrev cX12_laysAside : ByteArray := prog_14_method_44_code
def yX12_laysAside : MethodName := ⟨RX12, "laysAside", "()V"⟩
abbrev cX12_doingsThere : ByteArray := prog_14_method_45_code
def yX12_doingsThere : MethodName := ⟨RX12, "doingsThere", "()I"⟩
abbrev cX12_doingOf : ByteArray := prog_14_method_46_code
def yX12_doingOf : MethodName := ⟨RX12, "doingOf", "(I)I"⟩
abbrev cX12_plan : ByteArray := prog_14_method_47_code
def yX12_plan : MethodName := ⟨RX12, "plan", "(II)I"⟩
abbrev cX12_whitens : ByteArray := prog_14_method_48_code
def yX12_whitens : MethodName := ⟨RX12, "whitens", "(I)V"⟩
abbrev cX12_power : ByteArray := prog_14_method_49_code
def yX12_power : MethodName := ⟨RX12, "power", "(II)I"⟩
abbrev cX12_shadeOf : ByteArray := prog_14_method_50_code
def yX12_shadeOf : MethodName := ⟨RX12, "shadeOf", "(III)I"⟩
abbrev cX12_rows : ByteArray := prog_14_method_51_code
def yX12_rows : MethodName := ⟨RX12, "rows", "(IIIIII)I"⟩
abbrev cX12_shades : ByteArray := prog_14_method_52_code
def yX12_shades : MethodName := ⟨RX12, "shades", "(II)I"⟩
abbrev cX12_cracks : ByteArray := prog_14_method_53_code
def yX12_cracks : MethodName := ⟨RX12, "cracks", "(IIII)I"⟩
abbrev cX12_decades : ByteArray := prog_14_method_54_code
def yX12_decades : MethodName := ⟨RX12, "decades", "(III)I"⟩
abbrev cX12_isSheet : ByteArray := prog_14_method_55_code
def yX12_isSheet : MethodName := ⟨RX12, "isSheet", "(II)Z"⟩
abbrev cX12_found : ByteArray := prog_14_method_56_code
def yX12_found : MethodName := ⟨RX12, "found", "(IIII)I"⟩
abbrev cX12_cut : ByteArray := prog_14_method_57_code
def yX12_cut : MethodName := ⟨RX12, "cut", "(IJ)J"⟩
abbrev cX12_log : ByteArray := prog_14_method_58_code
def yX12_log : MethodName := ⟨RX12, "log", "(III)I"⟩
abbrev cX12_areDoings : ByteArray := prog_14_method_59_code
def yX12_areDoings : MethodName := ⟨RX12, "areDoings", "(III)Z"⟩
abbrev cX12_ahead : ByteArray := prog_14_method_60_code
def yX12_ahead : MethodName := ⟨RX12, "ahead", "(IIIIII)I"⟩
abbrev cX12_codeOf : ByteArray := prog_14_method_61_code
def yX12_codeOf : MethodName := ⟨RX12, "codeOf", "(I)I"⟩
abbrev cX12_goesRound : ByteArray := prog_14_method_62_code
def yX12_goesRound : MethodName := ⟨RX12, "goesRound", "(IIII)V"⟩
abbrev cX12_round : ByteArray := prog_14_method_63_code
def yX12_round : MethodName := ⟨RX12, "round", "(IIIII)I"⟩
abbrev cX12_kinds : ByteArray := prog_14_method_64_code
def yX12_kinds : MethodName := ⟨RX12, "kinds", "(IIIII)I"⟩
abbrev cX12_tryOf : ByteArray := prog_14_method_65_code
def yX12_tryOf : MethodName := ⟨RX12, "tryOf", "(II)I"⟩
abbrev cX12_wishes : ByteArray := prog_14_method_66_code
def yX12_wishes : MethodName := ⟨RX12, "wishes", "(III)I"⟩
abbrev cX12_count : ByteArray := prog_14_method_67_code
def yX12_count : MethodName := ⟨RX12, "count", "(I)I"⟩
abbrev cX12_sheet : ByteArray := prog_14_method_68_code
def yX12_sheet : MethodName := ⟨RX12, "sheet", "(III)I"⟩
abbrev cX12_drop : ByteArray := prog_14_method_69_code
def yX12_drop : MethodName := ⟨RX12, "drop", "(I)I"⟩
abbrev cX12_item : ByteArray := prog_14_method_70_code
def yX12_item : MethodName := ⟨RX12, "item", "(IIIJ)J"⟩
abbrev cX12_copy : ByteArray := prog_14_method_71_code
def yX12_copy : MethodName := ⟨RX12, "copy", "(IIIII)I"⟩
def RJ6 : String := "java/lang/Integer"
def TJ6 : u_T := fun k => match k with
  | _ => ("", "", "", false)
def tyJ6 : Nat → FieldType := fun k => match k with
  | _ => .int
abbrev wsJ60 : List Cond := u_ws RJ6 TJ6 0
theorem nmJ6 : ∀ a, a < 0 → ∀ b, b < 0 → a ≠ b → (TJ6 a).2.1 ≠ (TJ6 b).2.1 := by decide +kernel
theorem tyJ6_ok : ∀ k, k < 0 → parseFieldDescriptor (TJ6 k).2.2.1 = some (tyJ6 k) := by decide +kernel
abbrev cJ6_bitCount_0f7a4 : ByteArray := prog_15_method_49_code
def yJ6_bitCount_0f7a4 : MethodName := ⟨RJ6, "bitCount", "(I)I"⟩
def RJ9 : String := "java/lang/Math"
def TJ9 : u_T := fun k => match k with
  | _ => ("", "", "", false)
def tyJ9 : Nat → FieldType := fun k => match k with
  | _ => .int
abbrev wsJ90 : List Cond := u_ws RJ9 TJ9 0
theorem nmJ9 : ∀ a, a < 0 → ∀ b, b < 0 → a ≠ b → (TJ9 a).2.1 ≠ (TJ9 b).2.1 := by decide +kernel
theorem tyJ9_ok : ∀ k, k < 0 → parseFieldDescriptor (TJ9 k).2.2.1 = some (tyJ9 k) := by decide +kernel
abbrev cJ9_max_7cf53 : ByteArray := prog_16_method_65_code
def yJ9_max_7cf53 : MethodName := ⟨RJ9, "max", "(II)I"⟩
abbrev cJ9_min_7cf53 : ByteArray := prog_16_method_69_code
def yJ9_min_7cf53 : MethodName := ⟨RJ9, "min", "(II)I"⟩
def RJ10 : String := "java/lang/System"
def TJ10 : u_T := fun k => match k with
  | _ => ("", "", "", false)
def tyJ10 : Nat → FieldType := fun k => match k with
  | _ => .int
abbrev wsJ100 : List Cond := u_ws RJ10 TJ10 0
theorem nmJ10 : ∀ a, a < 0 → ∀ b, b < 0 → a ≠ b → (TJ10 a).2.1 ≠ (TJ10 b).2.1 := by decide +kernel
theorem tyJ10_ok : ∀ k, k < 0 → parseFieldDescriptor (TJ10 k).2.2.1 = some (tyJ10 k) := by decide +kernel
def RL : String := "WaxClothLaw"
abbrev cL_law : ByteArray := code
def yL_law : MethodName := ⟨RL, "law", "([I)Z"⟩
def wsL_law_r1 : List Cond := [Cond.classLink RL 7 RX11, Cond.instantiable RX11 11, Cond.initialized RX11, Cond.classLink RL 10 RX12, Cond.instantiable RX12 22, Cond.initialized RX12, Cond.constantLong RL 95 (4294967295), Cond.methodLink RL 9 yX11_init, Cond.instanceMethod yX11_init, Cond.code yX11_init cX11_init 2 none, Cond.methodLink RX11 1 objectInit, Cond.instanceMethod objectInit, Cond.code objectInit ⟨#[0xb1]⟩ 1 none, Cond.classLink RX11 7 RX10, Cond.instantiable RX10 2, Cond.initialized RX10, Cond.fieldLink RX11 10 "WaxCloth" "tape" "LWaxCloth$Tape;", Cond.classLink RX11 16 RX6, Cond.instantiable RX6 3, Cond.initialized RX6, Cond.fieldLink RX11 21 "WaxCloth" "reader" "LWaxCloth$Reader;", Cond.classLink RX11 25 RX2, Cond.instantiable RX2 9, Cond.initialized RX2]
def wsL_law_r2 : List Cond := [Cond.fieldLink RX11 28 "WaxCloth" "now" "LWaxCloth$Cloth;", Cond.classLink RX11 32 RX4, Cond.instantiable RX4 3, Cond.initialized RX4, Cond.fieldLink RX11 35 "WaxCloth" "past" "LWaxCloth$Past;", Cond.fieldLink RX11 39 "WaxCloth" "kept" "[LWaxCloth$Cloth;", Cond.classLink RX11 43 RX8, Cond.fieldLink RX11 45 "WaxCloth" "shelf" "[LWaxCloth$Sheet;", Cond.instantiable RX8 3, Cond.initialized RX8, Cond.classLink RX11 50 RX5, Cond.instantiable RX5 5, Cond.initialized RX5, Cond.fieldLink RX11 53 "WaxCloth" "planner" "LWaxCloth$Planner;", Cond.classLink RX11 57 RX0, Cond.instantiable RX0 5, Cond.initialized RX0, Cond.fieldLink RX11 60 "WaxCloth" "baths" "LWaxCloth$Baths;", Cond.classLink RX11 64 RX1, Cond.instantiable RX1 6, Cond.initialized RX1, Cond.fieldLink RX11 67 "WaxCloth" "chances" "LWaxCloth$Chances;", Cond.classLink RX11 71 RX7, Cond.instantiable RX7 2]
def wsL_law_r3 : List Cond := [Cond.initialized RX7, Cond.fieldLink RX11 74 "WaxCloth" "rounds" "LWaxCloth$Rounds;", Cond.arrayClass .int, Cond.fieldLink RX11 78 "WaxCloth" "doingRow" "[I", Cond.instanceMethod yX10_init, Cond.code yX10_init cX10_init 1 none, Cond.methodLink RX10 1 objectInit, Cond.fieldLink RX10 9 "WaxCloth$Tape" "bytes" "[I", Cond.methodLink RX11 18 yX6_init, Cond.instanceMethod yX6_init, Cond.code yX6_init cX6_init 2 none, Cond.methodLink RX6 1 objectInit, Cond.classLink RX6 7 RX2, Cond.fieldLink RX6 10 "WaxCloth$Reader" "result" "LWaxCloth$Cloth;", Cond.fieldLink RX6 16 "WaxCloth$Reader" "source" "LWaxCloth$Tape;", Cond.instanceMethod yX2_init, Cond.code yX2_init cX2_init 1 none, Cond.methodLink RX2 1 objectInit, Cond.fieldLink RX2 9 "WaxCloth$Cloth" "kindOf" "[I", Cond.fieldLink RX2 13 "WaxCloth$Cloth" "wished" "[I", Cond.fieldLink RX2 16 "WaxCloth$Cloth" "states" "[I", Cond.fieldLink RX2 21 "WaxCloth$Cloth" "dyeAmounts" "[I", Cond.fieldLink RX2 24 "WaxCloth$Cloth" "stencilSets" "[I", Cond.instanceMethod yX4_init]
def wsL_law_r4 : List Cond := [Cond.code yX4_init cX4_init 1 none, Cond.methodLink RX4 1 objectInit, Cond.classLink RX4 11 "[[I", Cond.fieldLink RX4 13 "WaxCloth$Past" "ring" "[[I", Cond.instanceMethod yX8_init, Cond.code yX8_init cX8_init 1 none, Cond.methodLink RX8 3 objectInit, Cond.fieldLink RX8 11 "WaxCloth$Sheet" "lane" "I", Cond.arrayClass .long, Cond.fieldLink RX8 15 "WaxCloth$Sheet" "items" "[J", Cond.instanceMethod yX5_init, Cond.code yX5_init cX5_init 1 none, Cond.methodLink RX5 3 objectInit, Cond.fieldLink RX5 9 "WaxCloth$Planner" "best" "[I", Cond.fieldLink RX5 15 "WaxCloth$Planner" "row" "[I", Cond.classLink RX5 20 "[[I", Cond.fieldLink RX5 22 "WaxCloth$Planner" "levels" "[[I", Cond.instanceMethod yX0_init, Cond.code yX0_init cX0_init 1 none, Cond.methodLink RX0 3 objectInit, Cond.fieldLink RX0 9 "WaxCloth$Baths" "first" "[I", Cond.fieldLink RX0 15 "WaxCloth$Baths" "row" "[I", Cond.fieldLink RX0 20 "WaxCloth$Baths" "seen" "[J", Cond.instanceMethod yX1_init]
def wsL_law_r5 : List Cond := [Cond.code yX1_init cX1_init 1 none, Cond.methodLink RX1 3 objectInit, Cond.fieldLink RX1 11 "WaxCloth$Chances" "weights" "[I", Cond.fieldLink RX1 17 "WaxCloth$Chances" "states" "[I", Cond.instanceMethod yX7_init, Cond.code yX7_init cX7_init 1 none, Cond.methodLink RX7 1 objectInit, Cond.methodLink RL 12 yX12_init, Cond.instanceMethod yX12_init, Cond.code yX12_init cX12_init 2 none, Cond.methodLink RX12 1 objectInit, Cond.fieldLink RX12 7 "WaxClothModel" "cloth" "[I", Cond.fieldLink RX12 13 "WaxClothModel" "read" "[I", Cond.fieldLink RX12 16 "WaxClothModel" "readWish" "[I", Cond.fieldLink RX12 19 "WaxClothModel" "now" "[I", Cond.fieldLink RX12 22 "WaxClothModel" "aside" "[I", Cond.fieldLink RX12 25 "WaxClothModel" "past" "[I", Cond.fieldLink RX12 28 "WaxClothModel" "images" "[I", Cond.arrayClass .boolean, Cond.fieldLink RX12 31 "WaxClothModel" "isKept" "[Z", Cond.fieldLink RX12 35 "WaxClothModel" "tape" "[I", Cond.fieldLink RX12 38 "WaxClothModel" "sizes" "[I", Cond.fieldLink RX12 41 "WaxClothModel" "lanes" "[I", Cond.fieldLink RX12 44 "WaxClothModel" "items" "[J"]
def wsL_law_r6 : List Cond := [Cond.fieldLink RX12 48 "WaxClothModel" "met" "[Z", Cond.fieldLink RX12 51 "WaxClothModel" "weights" "[J", Cond.fieldLink RX12 54 "WaxClothModel" "since" "[I", Cond.methodLink RL 13 yX11_feed, Cond.instanceMethod yX11_feed, Cond.selects RX11 yX11_feed yX11_feed, Cond.code yX11_feed cX11_feed 2 (some .int), Cond.fieldLink RX11 86 "WaxCloth$Tape" "length" "I", Cond.methodLink RX11 82 yX10_put, Cond.instanceMethod yX10_put, Cond.selects RX10 yX10_put yX10_put, Cond.code yX10_put cX10_put 2 (some .boolean), Cond.fieldLink RX10 13 "WaxCloth$Tape" "length" "I", Cond.methodLink RL 17 yX12_feed, Cond.instanceMethod yX12_feed, Cond.selects RX12 yX12_feed yX12_feed, Cond.code yX12_feed cX12_feed 2 (some .int), Cond.constantLong RX12 57 (255), Cond.fieldLink RX12 63 "WaxClothModel" "fed" "I", Cond.methodLink RX12 59 yX12_in, Cond.static yX12_in, Cond.code yX12_in cX12_in 6 (some .boolean), Cond.methodLink RL 18 yX11_cloth, Cond.instanceMethod yX11_cloth]
def wsL_law_r7 : List Cond := [Cond.selects RX11 yX11_cloth yX11_cloth, Cond.code yX11_cloth cX11_cloth 2 (some .int), Cond.fieldLink RX11 94 "WaxCloth$Reader" "place" "I", Cond.fieldLink RX11 97 "WaxCloth$Reader" "result" "LWaxCloth$Cloth;", Cond.fieldLink RX11 107 "WaxCloth$Cloth" "squares" "I", Cond.methodLink RX11 90 yX6_read, Cond.instanceMethod yX6_read, Cond.selects RX6 yX6_read yX6_read, Cond.code yX6_read cX6_read 1 (some .boolean), Cond.fieldLink RX6 20 "WaxCloth$Reader" "place" "I", Cond.methodLink RX6 24 yX6_sign, Cond.instanceMethod yX6_sign, Cond.selects RX6 yX6_sign yX6_sign, Cond.code yX6_sign cX6_sign 2 (some .boolean), Cond.methodLink RX6 38 yX10_at, Cond.instanceMethod yX10_at, Cond.selects RX10 yX10_at yX10_at, Cond.code yX10_at cX10_at 2 (some .int), Cond.methodLink RX6 28 yX6_readSquares, Cond.instanceMethod yX6_readSquares, Cond.selects RX6 yX6_readSquares yX6_readSquares, Cond.code yX6_readSquares cX6_readSquares 2 (some .boolean), Cond.fieldLink RX6 47 "WaxCloth$Cloth" "squares" "I", Cond.methodLink RX6 44 yX6_readSquare]
def wsL_law_r8 : List Cond := [Cond.instanceMethod yX6_readSquare, Cond.selects RX6 yX6_readSquare yX6_readSquare, Cond.code yX6_readSquare cX6_readSquare 4 (some .boolean), Cond.fieldLink RX6 61 "WaxCloth$Cloth" "kindOf" "[I", Cond.fieldLink RX6 65 "WaxCloth$Cloth" "wished" "[I", Cond.methodLink RX6 50 yX3_ofLetter, Cond.static yX3_ofLetter, Cond.initialized RX3, Cond.code yX3_ofLetter cX3_ofLetter 1 (some .int), Cond.methodLink RX6 57 yX6_figure, Cond.instanceMethod yX6_figure, Cond.selects RX6 yX6_figure yX6_figure, Cond.code yX6_figure cX6_figure 4 (some .int), Cond.methodLink RX6 32 yX6_readDyes, Cond.instanceMethod yX6_readDyes, Cond.selects RX6 yX6_readDyes yX6_readDyes, Cond.code yX6_readDyes cX6_readDyes 2 (some .boolean), Cond.fieldLink RX6 71 "WaxCloth$Cloth" "dyes" "I", Cond.methodLink RX6 68 yX6_readDye, Cond.instanceMethod yX6_readDye, Cond.selects RX6 yX6_readDye yX6_readDye, Cond.code yX6_readDye cX6_readDye 4 (some .boolean), Cond.fieldLink RX6 74 "WaxCloth$Cloth" "dyeAmounts" "[I", Cond.methodLink RX6 35 yX6_readStencils]
def wsL_law_r9 : List Cond := [Cond.instanceMethod yX6_readStencils, Cond.selects RX6 yX6_readStencils yX6_readStencils, Cond.code yX6_readStencils cX6_readStencils 3 (some .boolean), Cond.fieldLink RX6 81 "WaxCloth$Cloth" "stencilSets" "[I", Cond.fieldLink RX6 84 "WaxCloth$Cloth" "stencils" "I", Cond.methodLink RX6 77 yX6_readStencil, Cond.instanceMethod yX6_readStencil, Cond.selects RX6 yX6_readStencil yX6_readStencil, Cond.code yX6_readStencil cX6_readStencil 5 (some .int), Cond.methodLink RX11 100 yX2_become, Cond.instanceMethod yX2_become, Cond.selects RX2 yX2_become yX2_become, Cond.code yX2_become cX2_become 2 none, Cond.fieldLink RX2 27 "WaxCloth$Cloth" "squares" "I", Cond.fieldLink RX2 31 "WaxCloth$Cloth" "dyes" "I", Cond.fieldLink RX2 34 "WaxCloth$Cloth" "stencils" "I", Cond.fieldLink RX2 37 "WaxCloth$Cloth" "doings" "I", Cond.methodLink RX2 40 arraycopyName, Cond.native arraycopyName, Cond.static arraycopyName, Cond.initialized "java/lang/System", Cond.methodLink RX11 104 yX4_forget, Cond.instanceMethod yX4_forget, Cond.selects RX4 yX4_forget yX4_forget]
def wsL_law_r10 : List Cond := [Cond.code yX4_forget cX4_forget 1 none, Cond.fieldLink RX4 16 "WaxCloth$Past" "held" "I", Cond.methodLink RL 22 yX12_cloth, Cond.instanceMethod yX12_cloth, Cond.selects RX12 yX12_cloth yX12_cloth, Cond.code yX12_cloth cX12_cloth 3 (some .int), Cond.fieldLink RX12 67 "WaxClothModel" "at" "I", Cond.fieldLink RX12 109 "WaxClothModel" "doings" "I", Cond.fieldLink RX12 112 "WaxClothModel" "undos" "I", Cond.methodLink RX12 102 yX12_reads, Cond.instanceMethod yX12_reads, Cond.selects RX12 yX12_reads yX12_reads, Cond.code yX12_reads cX12_reads 2 (some .boolean), Cond.methodLink RX12 85 yX12_eats, Cond.instanceMethod yX12_eats, Cond.selects RX12 yX12_eats yX12_eats, Cond.code yX12_eats cX12_eats 3 (some .boolean), Cond.methodLink RX12 70 yX12_here, Cond.instanceMethod yX12_here, Cond.selects RX12 yX12_here yX12_here, Cond.code yX12_here cX12_here 1 (some .int), Cond.methodLink RX12 89 yX12_readsSquare, Cond.instanceMethod yX12_readsSquare, Cond.selects RX12 yX12_readsSquare yX12_readsSquare]
def wsL_law_r11 : List Cond := [Cond.code yX12_readsSquare cX12_readsSquare 3 (some .boolean), Cond.fieldLink RX12 74 "WaxClothModel" "value" "I", Cond.methodLink RX12 77 yX12_kindBy, Cond.static yX12_kindBy, Cond.code yX12_kindBy cX12_kindBy 1 (some .int), Cond.methodLink RX12 81 yX12_figure, Cond.instanceMethod yX12_figure, Cond.selects RX12 yX12_figure yX12_figure, Cond.code yX12_figure cX12_figure 3 (some .boolean), Cond.methodLink RX12 93 yX12_another, Cond.instanceMethod yX12_another, Cond.selects RX12 yX12_another yX12_another, Cond.code yX12_another cX12_another 3 (some .boolean), Cond.methodLink RX12 96 yX12_readsDye, Cond.instanceMethod yX12_readsDye, Cond.selects RX12 yX12_readsDye yX12_readsDye, Cond.code yX12_readsDye cX12_readsDye 2 (some .boolean), Cond.methodLink RX12 99 yX12_readsStencil, Cond.instanceMethod yX12_readsStencil, Cond.selects RX12 yX12_readsStencil yX12_readsStencil, Cond.code yX12_readsStencil cX12_readsStencil 3 (some .boolean), Cond.methodLink RX12 105 yX12_copies, Cond.static yX12_copies, Cond.code yX12_copies cX12_copies 6 none]
def wsL_law_r12 : List Cond := [Cond.methodLink RL 23 yX11_square, Cond.instanceMethod yX11_square, Cond.selects RX11 yX11_square yX11_square, Cond.code yX11_square cX11_square 4 (some .int), Cond.fieldLink RX11 113 "WaxCloth$Cloth" "states" "[I", Cond.fieldLink RX11 116 "WaxCloth$Cloth" "kindOf" "[I", Cond.fieldLink RX11 119 "WaxCloth$Cloth" "wished" "[I", Cond.methodLink RX11 110 yX2_hasSquare, Cond.instanceMethod yX2_hasSquare, Cond.selects RX2 yX2_hasSquare yX2_hasSquare, Cond.code yX2_hasSquare cX2_hasSquare 2 (some .boolean), Cond.methodLink RX11 122 yX9_waxIn, Cond.static yX9_waxIn, Cond.initialized RX9, Cond.code yX9_waxIn cX9_waxIn 1 (some .int), Cond.methodLink RX11 128 yX9_hueOf, Cond.static yX9_hueOf, Cond.code yX9_hueOf cX9_hueOf 5 (some .int), Cond.methodLink RX9 13 Lib.Math.max.name, Cond.static Lib.Math.max.name, Cond.initialized "java/lang/Math", Cond.code Lib.Math.max.name Lib.Math.max.code 2 (some .int), Cond.methodLink RX9 9 yX9_amountOf, Cond.static yX9_amountOf]
def wsL_law_r13 : List Cond := [Cond.code yX9_amountOf cX9_amountOf 2 (some .int), Cond.methodLink RX11 131 yX9_darkness, Cond.static yX9_darkness, Cond.code yX9_darkness cX9_darkness 1 (some .int), Cond.methodLink RX11 134 yX2_isRight, Cond.instanceMethod yX2_isRight, Cond.selects RX2 yX2_isRight yX2_isRight, Cond.code yX2_isRight cX2_isRight 3 (some .boolean), Cond.methodLink RX2 106 yX9_hueOf, Cond.methodLink RX11 138 yX9_amountOf, Cond.methodLink RL 27 yX12_square, Cond.instanceMethod yX12_square, Cond.selects RX12 yX12_square yX12_square, Cond.code yX12_square cX12_square 3 (some .int), Cond.constantLong RX12 164 (8), Cond.methodLink RX12 161 yX12_isSquare, Cond.instanceMethod yX12_isSquare, Cond.selects RX12 yX12_isSquare yX12_isSquare, Cond.code yX12_isSquare cX12_isSquare 2 (some .boolean), Cond.methodLink RX12 115 yX12_hueOf, Cond.static yX12_hueOf, Cond.code yX12_hueOf cX12_hueOf 6 (some .int), Cond.methodLink RX12 123 yX12_darkOf, Cond.static yX12_darkOf]
def wsL_law_r14 : List Cond := [Cond.code yX12_darkOf cX12_darkOf 2 (some .int), Cond.methodLink RX12 119 yX12_isRight, Cond.static yX12_isRight, Cond.code yX12_isRight cX12_isRight 2 (some .boolean), Cond.methodLink RL 28 yX11_as, Cond.instanceMethod yX11_as, Cond.selects RX11 yX11_as yX11_as, Cond.code yX11_as cX11_as 3 (some .int), Cond.methodLink RX11 144 yX3_isUnder, Cond.static yX3_isUnder, Cond.code yX3_isUnder cX3_isUnder 4 (some .boolean), Cond.fieldLink RX3 9 "WaxCloth$Kind" "ABOVE" "[I", Cond.methodLink RL 31 yX12_as, Cond.instanceMethod yX12_as, Cond.selects RX12 yX12_as yX12_as, Cond.code yX12_as cX12_as 5 (some .int), Cond.constantLong RX12 166 (5), Cond.constantLong RX12 168 (2), Cond.constantLong RX12 170 (3), Cond.methodLink RL 32 yX11_dye, Cond.instanceMethod yX11_dye, Cond.selects RX11 yX11_dye yX11_dye, Cond.code yX11_dye cX11_dye 3 (some .int), Cond.methodLink RX11 147 yX2_hasDye]
def wsL_law_r15 : List Cond := [Cond.instanceMethod yX2_hasDye, Cond.selects RX2 yX2_hasDye yX2_hasDye, Cond.code yX2_hasDye cX2_hasDye 2 (some .boolean), Cond.methodLink RX11 150 yX9_isColour, Cond.static yX9_isColour, Cond.code yX9_isColour cX9_isColour 1 (some .boolean), Cond.methodLink RX11 153 yX2_amountInDye, Cond.instanceMethod yX2_amountInDye, Cond.selects RX2 yX2_amountInDye yX2_amountInDye, Cond.code yX2_amountInDye cX2_amountInDye 3 (some .int), Cond.methodLink RL 35 yX12_dye, Cond.instanceMethod yX12_dye, Cond.selects RX12 yX12_dye yX12_dye, Cond.code yX12_dye cX12_dye 3 (some .int), Cond.methodLink RX12 172 yX12_isDye, Cond.instanceMethod yX12_isDye, Cond.selects RX12 yX12_isDye yX12_isDye, Cond.code yX12_isDye cX12_isDye 2 (some .boolean), Cond.methodLink RL 36 yX11_stencil, Cond.instanceMethod yX11_stencil, Cond.selects RX11 yX11_stencil yX11_stencil, Cond.code yX11_stencil cX11_stencil 2 (some .int), Cond.fieldLink RX11 159 "WaxCloth$Cloth" "stencilSets" "[I", Cond.methodLink RX11 156 yX2_hasStencil]
def wsL_law_r16 : List Cond := [Cond.instanceMethod yX2_hasStencil, Cond.selects RX2 yX2_hasStencil yX2_hasStencil, Cond.code yX2_hasStencil cX2_hasStencil 2 (some .boolean), Cond.methodLink RL 39 yX12_stencil, Cond.instanceMethod yX12_stencil, Cond.selects RX12 yX12_stencil yX12_stencil, Cond.code yX12_stencil cX12_stencil 2 (some .int), Cond.methodLink RL 40 yX11_takes, Cond.instanceMethod yX11_takes, Cond.selects RX11 yX11_takes yX11_takes, Cond.code yX11_takes cX11_takes 5 (some .int), Cond.methodLink RX11 162 yX2_gain, Cond.instanceMethod yX2_gain, Cond.selects RX2 yX2_gain yX2_gain, Cond.code yX2_gain cX2_gain 7 (some .int), Cond.methodLink RX2 69 Lib.Math.min.name, Cond.static Lib.Math.min.name, Cond.code Lib.Math.min.name Lib.Math.min.code 2 (some .int), Cond.methodLink RX2 56 yX9_amountOf, Cond.methodLink RX2 60 yX2_amountInDye, Cond.methodLink RX2 63 yX3_taken, Cond.static yX3_taken, Cond.code yX3_taken cX3_taken 3 (some .int), Cond.methodLink RL 44 yX12_takes]
def wsL_law_r17 : List Cond := [Cond.instanceMethod yX12_takes, Cond.selects RX12 yX12_takes yX12_takes, Cond.code yX12_takes cX12_takes 4 (some .int), Cond.methodLink RX12 137 yX12_takenOn, Cond.instanceMethod yX12_takenOn, Cond.selects RX12 yX12_takenOn yX12_takenOn, Cond.code yX12_takenOn cX12_takenOn 6 (some .int), Cond.methodLink RX12 130 yX12_takenBy, Cond.static yX12_takenBy, Cond.code yX12_takenBy cX12_takenBy 3 (some .int), Cond.methodLink RX12 126 yX12_less, Cond.static yX12_less, Cond.code yX12_less cX12_less 2 (some .int), Cond.methodLink RL 45 yX11_does, Cond.instanceMethod yX11_does, Cond.selects RX11 yX11_does yX11_does, Cond.code yX11_does cX11_does 2 (some .int), Cond.fieldLink RX11 170 "WaxCloth$Cloth" "doings" "I", Cond.methodLink RX11 166 yX2_hasDoing, Cond.instanceMethod yX2_hasDoing, Cond.selects RX2 yX2_hasDoing yX2_hasDoing, Cond.code yX2_hasDoing cX2_hasDoing 3 (some .boolean), Cond.constantLong RX2 50 (21), Cond.constantLong RX2 52 (20)]
def wsL_law_r18 : List Cond := [Cond.constantLong RX2 54 (10), Cond.methodLink RX2 46 yX2_stands, Cond.instanceMethod yX2_stands, Cond.selects RX2 yX2_stands yX2_stands, Cond.code yX2_stands cX2_stands 1 (some .boolean), Cond.methodLink RX11 173 yX4_keep, Cond.instanceMethod yX4_keep, Cond.selects RX4 yX4_keep yX4_keep, Cond.code yX4_keep cX4_keep 2 none, Cond.fieldLink RX4 20 "WaxCloth$Past" "next" "I", Cond.methodLink RX4 23 arraycopyName, Cond.methodLink RX4 29 Lib.Math.min.name, Cond.methodLink RX11 177 yX2_apply, Cond.instanceMethod yX2_apply, Cond.selects RX2 yX2_apply yX2_apply, Cond.code yX2_apply cX2_apply 7 (some .boolean), Cond.methodLink RX2 103 yX2_after, Cond.instanceMethod yX2_after, Cond.selects RX2 yX2_after yX2_after, Cond.code yX2_after cX2_after 5 (some .int), Cond.methodLink RX2 74 yX9_waxIn, Cond.methodLink RX2 78 yX2_dyed, Cond.instanceMethod yX2_dyed, Cond.selects RX2 yX2_dyed yX2_dyed]
def wsL_law_r19 : List Cond := [Cond.code yX2_dyed cX2_dyed 6 (some .int), Cond.methodLink RX2 90 yX2_gain, Cond.methodLink RX2 94 yX9_withMore, Cond.static yX9_withMore, Cond.code yX9_withMore cX9_withMore 3 (some .int), Cond.methodLink RX2 81 yX2_cracked, Cond.instanceMethod yX2_cracked, Cond.selects RX2 yX2_cracked yX2_cracked, Cond.code yX2_cracked cX2_cracked 3 (some .int), Cond.methodLink RX2 100 Lib.Math.max.name, Cond.methodLink RX2 97 yX3_layersCracked, Cond.static yX3_layersCracked, Cond.code yX3_layersCracked cX3_layersCracked 1 (some .int), Cond.methodLink RX2 84 yX9_withWax, Cond.static yX9_withWax, Cond.code yX9_withWax cX9_withWax 2 (some .int), Cond.methodLink RX2 87 yX2_rinsed, Cond.static yX2_rinsed, Cond.code yX2_rinsed cX2_rinsed 3 (some .int), Cond.methodLink RX11 181 yX2_rightSet, Cond.instanceMethod yX2_rightSet, Cond.selects RX2 yX2_rightSet yX2_rightSet, Cond.code yX2_rightSet cX2_rightSet 4 (some .int), Cond.methodLink RX2 109 yX2_isRight]
def wsL_law_r20 : List Cond := [Cond.methodLink RL 48 yX12_does, Cond.instanceMethod yX12_does, Cond.selects RX12 yX12_does yX12_does, Cond.code yX12_does cX12_does 3 (some .int), Cond.methodLink RX12 175 yX12_isDoing, Cond.instanceMethod yX12_isDoing, Cond.selects RX12 yX12_isDoing yX12_isDoing, Cond.code yX12_isDoing cX12_isDoing 3 (some .boolean), Cond.constantLong RX12 141 (10), Cond.constantLong RX12 143 (20), Cond.constantLong RX12 145 (21), Cond.methodLink RX12 179 yX12_doesAll, Cond.instanceMethod yX12_doesAll, Cond.selects RX12 yX12_doesAll yX12_doesAll, Cond.code yX12_doesAll cX12_doesAll 4 none, Cond.methodLink RX12 158 yX12_doesOn, Cond.instanceMethod yX12_doesOn, Cond.selects RX12 yX12_doesOn yX12_doesOn, Cond.code yX12_doesOn cX12_doesOn 4 none, Cond.methodLink RX12 147 yX12_bathes, Cond.instanceMethod yX12_bathes, Cond.selects RX12 yX12_bathes yX12_bathes, Cond.code yX12_bathes cX12_bathes 5 none, Cond.methodLink RX12 134 yX12_cracksOn]
def wsL_law_r21 : List Cond := [Cond.static yX12_cracksOn, Cond.code yX12_cracksOn cX12_cracksOn 1 (some .int), Cond.methodLink RX12 151 yX12_has, Cond.static yX12_has, Cond.code yX12_has cX12_has 2 (some .boolean), Cond.methodLink RX12 154 yX12_rinses, Cond.instanceMethod yX12_rinses, Cond.selects RX12 yX12_rinses yX12_rinses, Cond.code yX12_rinses cX12_rinses 5 none, Cond.methodLink RX12 182 yX12_rightOn, Cond.instanceMethod yX12_rightOn, Cond.selects RX12 yX12_rightOn yX12_rightOn, Cond.code yX12_rightOn cX12_rightOn 4 (some .int), Cond.methodLink RL 49 yX11_undo, Cond.instanceMethod yX11_undo, Cond.selects RX11 yX11_undo yX11_undo, Cond.code yX11_undo cX11_undo 1 (some .int), Cond.fieldLink RX11 189 "WaxCloth$Past" "held" "I", Cond.methodLink RX11 185 yX4_takeBack, Cond.instanceMethod yX4_takeBack, Cond.selects RX4 yX4_takeBack yX4_takeBack, Cond.code yX4_takeBack cX4_takeBack 2 (some .boolean), Cond.methodLink RL 52 yX12_undo, Cond.instanceMethod yX12_undo]
def wsL_law_r22 : List Cond := [Cond.selects RX12 yX12_undo yX12_undo, Cond.code yX12_undo cX12_undo 1 (some .int), Cond.methodLink RL 53 yX11_wish, Cond.instanceMethod yX11_wish, Cond.selects RX11 yX11_wish yX11_wish, Cond.code yX11_wish cX11_wish 4 (some .int), Cond.methodLink RL 56 yX12_wish, Cond.instanceMethod yX12_wish, Cond.selects RX12 yX12_wish yX12_wish, Cond.code yX12_wish cX12_wish 4 (some .int), Cond.constantLong RX12 186 (7), Cond.methodLink RL 57 yX11_image, Cond.instanceMethod yX11_image, Cond.selects RX11 yX11_image yX11_image, Cond.code yX11_image cX11_image 2 (some .int), Cond.methodLink RX11 192 yX2_stands, Cond.methodLink RL 60 yX12_image, Cond.instanceMethod yX12_image, Cond.selects RX12 yX12_image yX12_image, Cond.code yX12_image cX12_image 2 (some .int), Cond.methodLink RL 61 yX11_restore, Cond.instanceMethod yX11_restore, Cond.selects RX11 yX11_restore yX11_restore, Cond.code yX11_restore cX11_restore 2 (some .int)]
def wsL_law_r23 : List Cond := [Cond.methodLink RL 64 yX12_restore, Cond.instanceMethod yX12_restore, Cond.selects RX12 yX12_restore yX12_restore, Cond.code yX12_restore cX12_restore 2 (some .int), Cond.methodLink RL 65 yX11_plan, Cond.instanceMethod yX11_plan, Cond.selects RX11 yX11_plan yX11_plan, Cond.code yX11_plan cX11_plan 3 (some .int), Cond.fieldLink RX11 199 "WaxCloth$Planner" "bestRight" "I", Cond.fieldLink RX11 202 "WaxCloth$Planner" "bestLength" "I", Cond.fieldLink RX11 205 "WaxCloth$Planner" "best" "[I", Cond.methodLink RX11 195 yX5_search, Cond.instanceMethod yX5_search, Cond.selects RX5 yX5_search yX5_search, Cond.code yX5_search cX5_search 4 none, Cond.fieldLink RX5 25 "WaxCloth$Cloth" "states" "[I", Cond.methodLink RX5 28 arraycopyName, Cond.fieldLink RX5 38 "WaxCloth$Planner" "bestRight" "I", Cond.fieldLink RX5 42 "WaxCloth$Planner" "bestLength" "I", Cond.fieldLink RX5 45 "WaxCloth$Cloth" "squares" "I", Cond.methodLink RX5 34 yX2_rightCount, Cond.instanceMethod yX2_rightCount, Cond.selects RX2 yX2_rightCount yX2_rightCount, Cond.code yX2_rightCount cX2_rightCount 2 (some .int)]
def wsL_law_r24 : List Cond := [Cond.methodLink RX2 113 yX2_rightSet, Cond.methodLink RX2 117 yJ6_bitCount_0f7a4, Cond.static yJ6_bitCount_0f7a4, Cond.initialized RJ6, Cond.code yJ6_bitCount_0f7a4 cJ6_bitCount_0f7a4 1 (some .int), Cond.constant RJ6 265 (1431655765), Cond.constant RJ6 266 (858993459), Cond.constant RJ6 267 (252645135), Cond.methodLink RX5 48 yX5_extend, Cond.instanceMethod yX5_extend, Cond.selects RX5 yX5_extend yX5_extend, Cond.code yX5_extend cX5_extend 6 none, Cond.methodLink RX5 52 yX2_doingCount, Cond.instanceMethod yX2_doingCount, Cond.selects RX2 yX2_doingCount yX2_doingCount, Cond.code yX2_doingCount cX2_doingCount 1 (some .int), Cond.methodLink RX5 56 yX2_nthDoing, Cond.instanceMethod yX2_nthDoing, Cond.selects RX2 yX2_nthDoing yX2_nthDoing, Cond.code yX2_nthDoing cX2_nthDoing 2 (some .int), Cond.methodLink RX5 60 yX5_isWaxOnly, Cond.static yX5_isWaxOnly, Cond.code yX5_isWaxOnly cX5_isWaxOnly 1 (some .boolean), Cond.methodLink RX5 64 yX2_apply]
def wsL_law_r25 : List Cond := [Cond.methodLink RX5 68 yX5_judge, Cond.instanceMethod yX5_judge, Cond.selects RX5 yX5_judge yX5_judge, Cond.code yX5_judge cX5_judge 3 none, Cond.methodLink RL 68 yX12_plan, Cond.instanceMethod yX12_plan, Cond.selects RX12 yX12_plan yX12_plan, Cond.code yX12_plan cX12_plan 11 (some .int), Cond.constantLong RX12 188 (4), Cond.methodLink RX12 190 yX12_doingsThere, Cond.instanceMethod yX12_doingsThere, Cond.selects RX12 yX12_doingsThere yX12_doingsThere, Cond.code yX12_doingsThere cX12_doingsThere 1 (some .int), Cond.methodLink RX12 193 yX12_laysAside, Cond.instanceMethod yX12_laysAside, Cond.selects RX12 yX12_laysAside yX12_laysAside, Cond.code yX12_laysAside cX12_laysAside 1 none, Cond.methodLink RX12 196 yX12_doingOf, Cond.instanceMethod yX12_doingOf, Cond.selects RX12 yX12_doingOf yX12_doingOf, Cond.code yX12_doingOf cX12_doingOf 4 (some .int), Cond.methodLink RX12 199 yX12_bits, Cond.static yX12_bits, Cond.code yX12_bits cX12_bits 3 (some .int)]
def wsL_law_r26 : List Cond := [Cond.methodLink RL 69 yX11_rows, Cond.instanceMethod yX11_rows, Cond.selects RX11 yX11_rows yX11_rows, Cond.code yX11_rows cX11_rows 7 (some .int), Cond.fieldLink RX11 219 "WaxCloth$Baths" "found" "I", Cond.fieldLink RX11 222 "WaxCloth$Baths" "first" "[I", Cond.methodLink RX11 208 yX9_isAmount, Cond.static yX9_isAmount, Cond.code yX9_isAmount cX9_isAmount 1 (some .boolean), Cond.methodLink RX11 211 yX9_ofShade, Cond.static yX9_ofShade, Cond.code yX9_ofShade cX9_ofShade 3 (some .int), Cond.methodLink RX11 215 yX0_walk, Cond.instanceMethod yX0_walk, Cond.selects RX0 yX0_walk yX0_walk, Cond.code yX0_walk cX0_walk 6 none, Cond.fieldLink RX0 24 "WaxCloth$Baths" "found" "I", Cond.fieldLink RX0 28 "WaxCloth$Baths" "unlike" "I", Cond.methodLink RX0 31 yX0_bathe, Cond.instanceMethod yX0_bathe, Cond.selects RX0 yX0_bathe yX0_bathe, Cond.code yX0_bathe cX0_bathe 8 none, Cond.fieldLink RX0 39 "WaxCloth$Cloth" "dyes" "I", Cond.methodLink RX0 35 yX0_note]
def wsL_law_r27 : List Cond := [Cond.instanceMethod yX0_note, Cond.selects RX0 yX0_note yX0_note, Cond.code yX0_note cX0_note 7 none, Cond.methodLink RX0 48 arraycopyName, Cond.methodLink RX0 44 yX2_dyed, Cond.methodLink RL 73 yX12_rows, Cond.instanceMethod yX12_rows, Cond.selects RX12 yX12_rows yX12_rows, Cond.code yX12_rows cX12_rows 11 (some .int), Cond.constantLong RX12 209 (9), Cond.methodLink RX12 206 yX12_power, Cond.static yX12_power, Cond.code yX12_power cX12_power 4 (some .int), Cond.methodLink RX12 211 yX12_shadeOf, Cond.instanceMethod yX12_shadeOf, Cond.selects RX12 yX12_shadeOf yX12_shadeOf, Cond.code yX12_shadeOf cX12_shadeOf 5 (some .int), Cond.methodLink RX12 202 yX12_whitens, Cond.instanceMethod yX12_whitens, Cond.selects RX12 yX12_whitens yX12_whitens, Cond.code yX12_whitens cX12_whitens 3 none, Cond.methodLink RL 74 yX11_shades, Cond.instanceMethod yX11_shades, Cond.selects RX11 yX11_shades yX11_shades]
def wsL_law_r28 : List Cond := [Cond.code yX11_shades cX11_shades 3 (some .int), Cond.fieldLink RX11 225 "WaxCloth$Baths" "unlike" "I", Cond.methodLink RL 77 yX12_shades, Cond.instanceMethod yX12_shades, Cond.selects RX12 yX12_shades yX12_shades, Cond.code yX12_shades cX12_shades 6 (some .int), Cond.methodLink RL 78 yX11_cracks, Cond.instanceMethod yX11_cracks, Cond.selects RX11 yX11_cracks yX11_cracks, Cond.code yX11_cracks cX11_cracks 5 (some .int), Cond.fieldLink RX11 231 "WaxCloth$Chances" "above" "I", Cond.fieldLink RX11 234 "WaxCloth$Chances" "below" "I", Cond.methodLink RX11 228 yX1_crack, Cond.instanceMethod yX1_crack, Cond.selects RX1 yX1_crack yX1_crack, Cond.code yX1_crack cX1_crack 13 none, Cond.fieldLink RX1 20 "WaxCloth$Cloth" "squares" "I", Cond.fieldLink RX1 24 "WaxCloth$Cloth" "states" "[I", Cond.fieldLink RX1 47 "WaxCloth$Chances" "above" "I", Cond.fieldLink RX1 50 "WaxCloth$Chances" "below" "I", Cond.methodLink RX1 25 yX9_waxIn, Cond.methodLink RX1 31 yX2_dyed, Cond.methodLink RX1 35 yX2_isRight, Cond.methodLink RX1 39 yX1_weigh]
def wsL_law_r29 : List Cond := [Cond.instanceMethod yX1_weigh, Cond.selects RX1 yX1_weigh yX1_weigh, Cond.code yX1_weigh cX1_weigh 5 none, Cond.methodLink RX1 43 yX1_greatestCommon, Cond.static yX1_greatestCommon, Cond.code yX1_greatestCommon cX1_greatestCommon 6 (some .int), Cond.methodLink RX1 89 Lib.Math.max.name, Cond.methodLink RL 82 yX12_cracks, Cond.instanceMethod yX12_cracks, Cond.selects RX12 yX12_cracks yX12_cracks, Cond.code yX12_cracks cX12_cracks 18 (some .int), Cond.methodLink RL 83 yX11_decades, Cond.instanceMethod yX11_decades, Cond.selects RX11 yX11_decades yX11_decades, Cond.code yX11_decades cX11_decades 4 (some .int), Cond.constant RX11 237 (999999), Cond.fieldLink RX11 242 "WaxCloth$Chances" "dark" "I", Cond.fieldLink RX11 245 "WaxCloth$Chances" "rights" "I", Cond.methodLink RX11 238 yX1_draw, Cond.instanceMethod yX1_draw, Cond.selects RX1 yX1_draw yX1_draw, Cond.code yX1_draw cX1_draw 8 none, Cond.methodLink RX1 53 arraycopyName, Cond.fieldLink RX1 59 "WaxCloth$Chances" "rights" "I"]
def wsL_law_r30 : List Cond := [Cond.constantLong RX1 62 (16807), Cond.constantLong RX1 64 (2147483647), Cond.constantLong RX1 66 (4), Cond.fieldLink RX1 86 "WaxCloth$Chances" "dark" "I", Cond.methodLink RX1 68 yX2_doingCount, Cond.methodLink RX1 72 yX2_nthDoing, Cond.methodLink RX1 75 yX2_apply, Cond.methodLink RX1 79 yX2_rightCount, Cond.methodLink RX1 83 yX2_darknessOf, Cond.instanceMethod yX2_darknessOf, Cond.selects RX2 yX2_darknessOf yX2_darknessOf, Cond.code yX2_darknessOf cX2_darknessOf 4 (some .int), Cond.methodLink RX2 122 yX9_darkness, Cond.methodLink RL 86 yX12_decades, Cond.instanceMethod yX12_decades, Cond.selects RX12 yX12_decades yX12_decades, Cond.code yX12_decades cX12_decades 8 (some .int), Cond.constantLong RX12 214 (60), Cond.constantLong RX12 216 (999999), Cond.constantLong RX12 218 (16807), Cond.constantLong RX12 220 (2147483647), Cond.methodLink RX12 222 yX12_darkAll, Cond.instanceMethod yX12_darkAll, Cond.selects RX12 yX12_darkAll yX12_darkAll]
def wsL_law_r31 : List Cond := [Cond.code yX12_darkAll cX12_darkAll 4 (some .int), Cond.methodLink RL 87 yX11_sheet, Cond.instanceMethod yX11_sheet, Cond.selects RX11 yX11_sheet yX11_sheet, Cond.code yX11_sheet cX11_sheet 4 (some .int), Cond.methodLink RX11 248 yX11_isSheet, Cond.static yX11_isSheet, Cond.code yX11_isSheet cX11_isSheet 1 (some .boolean), Cond.methodLink RX11 251 yX8_isLane, Cond.static yX8_isLane, Cond.code yX8_isLane cX8_isLane 1 (some .boolean), Cond.methodLink RX11 254 yX8_begin, Cond.instanceMethod yX8_begin, Cond.selects RX8 yX8_begin yX8_begin, Cond.code yX8_begin cX8_begin 4 none, Cond.fieldLink RX8 19 "WaxCloth$Sheet" "size" "I", Cond.methodLink RL 90 yX12_sheet, Cond.instanceMethod yX12_sheet, Cond.selects RX12 yX12_sheet yX12_sheet, Cond.code yX12_sheet cX12_sheet 5 (some .int), Cond.methodLink RX12 225 yX12_isSheet, Cond.static yX12_isSheet, Cond.code yX12_isSheet cX12_isSheet 2 (some .boolean), Cond.methodLink RL 91 yX11_drop]
def wsL_law_r32 : List Cond := [Cond.instanceMethod yX11_drop, Cond.selects RX11 yX11_drop yX11_drop, Cond.code yX11_drop cX11_drop 2 (some .int), Cond.methodLink RX11 258 yX8_isNothing, Cond.instanceMethod yX8_isNothing, Cond.selects RX8 yX8_isNothing yX8_isNothing, Cond.code yX8_isNothing cX8_isNothing 1 (some .boolean), Cond.methodLink RX11 261 yX8_end, Cond.instanceMethod yX8_end, Cond.selects RX8 yX8_end yX8_end, Cond.code yX8_end cX8_end 1 (some .int), Cond.methodLink RL 94 yX12_drop, Cond.instanceMethod yX12_drop, Cond.selects RX12 yX12_drop yX12_drop, Cond.code yX12_drop cX12_drop 3 (some .int), Cond.methodLink RL 97 yX11_item, Cond.instanceMethod yX11_item, Cond.selects RX11 yX11_item yX11_item, Cond.code yX11_item cX11_item 7 (some .long), Cond.constantLong RX11 265 (-1), Cond.methodLink RX11 267 yX8_refusal, Cond.instanceMethod yX8_refusal, Cond.selects RX8 yX8_refusal yX8_refusal, Cond.code yX8_refusal cX8_refusal 4 (some .int)]
def wsL_law_r33 : List Cond := [Cond.methodLink RX8 22 yX8_isNothing, Cond.methodLink RX8 26 yX8_holds, Cond.instanceMethod yX8_holds, Cond.selects RX8 yX8_holds yX8_holds, Cond.code yX8_holds cX8_holds 3 (some .boolean), Cond.methodLink RX11 270 yX8_put, Cond.instanceMethod yX8_put, Cond.selects RX8 yX8_put yX8_put, Cond.code yX8_put cX8_put 4 (some .long), Cond.methodLink RL 101 yX12_item, Cond.instanceMethod yX12_item, Cond.selects RX12 yX12_item yX12_item, Cond.code yX12_item cX12_item 7 (some .long), Cond.constantLong RX12 249 (-1), Cond.methodLink RX12 228 yX12_found, Cond.instanceMethod yX12_found, Cond.selects RX12 yX12_found yX12_found, Cond.code yX12_found cX12_found 5 (some .int), Cond.methodLink RX12 254 yX12_cut, Cond.static yX12_cut, Cond.code yX12_cut cX12_cut 3 (some .long), Cond.methodLink RL 102 yX11_copy, Cond.instanceMethod yX11_copy, Cond.selects RX11 yX11_copy yX11_copy]
def wsL_law_r34 : List Cond := [Cond.code yX11_copy cX11_copy 8 (some .int), Cond.fieldLink RX11 273 "WaxCloth$Sheet" "lane" "I", Cond.fieldLink RX11 279 "WaxCloth$Sheet" "items" "[J", Cond.methodLink RX11 283 arraycopyName, Cond.methodLink RX11 276 yX8_holds, Cond.methodLink RL 106 yX12_copy, Cond.instanceMethod yX12_copy, Cond.selects RX12 yX12_copy yX12_copy, Cond.code yX12_copy cX12_copy 8 (some .int), Cond.methodLink RL 107 yX11_log, Cond.instanceMethod yX11_log, Cond.selects RX11 yX11_log yX11_log, Cond.code yX11_log cX11_log 6 (some .int), Cond.methodLink RL 110 yX12_log, Cond.instanceMethod yX12_log, Cond.selects RX12 yX12_log yX12_log, Cond.code yX12_log cX12_log 6 (some .int), Cond.methodLink RL 111 yX11_ahead, Cond.instanceMethod yX11_ahead, Cond.selects RX11 yX11_ahead yX11_ahead, Cond.code yX11_ahead cX11_ahead 9 (some .int), Cond.methodLink RX11 289 yX11_takeDoings, Cond.instanceMethod yX11_takeDoings, Cond.selects RX11 yX11_takeDoings yX11_takeDoings]
def wsL_law_r35 : List Cond := [Cond.code yX11_takeDoings cX11_takeDoings 9 (some .int), Cond.methodLink RX11 292 yX2_afterRow, Cond.instanceMethod yX2_afterRow, Cond.selects RX2 yX2_afterRow yX2_afterRow, Cond.code yX2_afterRow cX2_afterRow 7 (some .int), Cond.methodLink RL 114 yX12_ahead, Cond.instanceMethod yX12_ahead, Cond.selects RX12 yX12_ahead yX12_ahead, Cond.code yX12_ahead cX12_ahead 9 (some .int), Cond.methodLink RX12 232 yX12_areDoings, Cond.instanceMethod yX12_areDoings, Cond.selects RX12 yX12_areDoings yX12_areDoings, Cond.code yX12_areDoings cX12_areDoings 6 (some .boolean), Cond.methodLink RL 115 yX11_round, Cond.instanceMethod yX11_round, Cond.selects RX11 yX11_round yX11_round, Cond.code yX11_round cX11_round 7 (some .int), Cond.fieldLink RX11 300 "WaxCloth$Rounds" "lead" "I", Cond.fieldLink RX11 303 "WaxCloth$Rounds" "lap" "I", Cond.methodLink RX11 296 yX7_measure, Cond.instanceMethod yX7_measure, Cond.selects RX7 yX7_measure yX7_measure, Cond.code yX7_measure cX7_measure 7 none, Cond.fieldLink RX7 7 "WaxCloth$Rounds" "lead" "I"]
def wsL_law_r36 : List Cond := [Cond.fieldLink RX7 13 "WaxCloth$Rounds" "lap" "I", Cond.fieldLink RX7 16 "WaxCloth$Cloth" "squares" "I", Cond.methodLink RX7 29 Lib.Math.max.name, Cond.methodLink RX7 21 yX7_lapOf, Cond.static yX7_lapOf, Cond.code yX7_lapOf cX7_lapOf 9 (some .int), Cond.fieldLink RX7 40 "WaxCloth$Cloth" "states" "[I", Cond.constant RX7 48 (100000), Cond.methodLink RX7 44 yX2_afterRow, Cond.methodLink RX7 25 yX7_leadOf, Cond.static yX7_leadOf, Cond.code yX7_leadOf cX7_leadOf 9 (some .int), Cond.methodLink RX7 35 yX1_greatestCommon, Cond.methodLink RL 118 yX12_round, Cond.instanceMethod yX12_round, Cond.selects RX12 yX12_round yX12_round, Cond.code yX12_round cX12_round 11 (some .int), Cond.fieldLink RX12 239 "WaxClothModel" "roundsAhead" "I", Cond.fieldLink RX12 242 "WaxClothModel" "length" "I", Cond.methodLink RX12 245 yX12_goesRound, Cond.instanceMethod yX12_goesRound, Cond.selects RX12 yX12_goesRound yX12_goesRound, Cond.code yX12_goesRound cX12_goesRound 7 none, Cond.methodLink RX12 236 yX12_codeOf]
def wsL_law_r37 : List Cond := [Cond.instanceMethod yX12_codeOf, Cond.selects RX12 yX12_codeOf yX12_codeOf, Cond.code yX12_codeOf cX12_codeOf 3 (some .int), Cond.methodLink RL 119 yX11_kinds, Cond.instanceMethod yX11_kinds, Cond.selects RX11 yX11_kinds yX11_kinds, Cond.code yX11_kinds cX11_kinds 8 (some .int), Cond.methodLink RX11 306 yX11_areTriples, Cond.static yX11_areTriples, Cond.code yX11_areTriples cX11_areTriples 8 (some .boolean), Cond.constantLong RX11 329 (9), Cond.constantLong RX11 331 (3), Cond.methodLink RX11 310 yX11_kindsByTriples, Cond.static yX11_kindsByTriples, Cond.code yX11_kindsByTriples cX11_kindsByTriples 6 (some .int), Cond.methodLink RX11 333 yX3_thatTake, Cond.static yX3_thatTake, Cond.code yX3_thatTake cX3_thatTake 7 (some .int), Cond.methodLink RX3 13 yX3_taken, Cond.methodLink RX11 314 yX3_bestTry, Cond.static yX3_bestTry, Cond.code yX3_bestTry cX3_bestTry 6 (some .int), Cond.methodLink RX3 17 yX3_greatestPart, Cond.static yX3_greatestPart]
def wsL_law_r38 : List Cond := [Cond.code yX3_greatestPart cX3_greatestPart 5 (some .int), Cond.methodLink RX3 30 Lib.Math.max.name, Cond.methodLink RX3 20 yX3_thatTake, Cond.methodLink RX3 24 yJ6_bitCount_0f7a4, Cond.methodLink RL 122 yX12_kinds, Cond.instanceMethod yX12_kinds, Cond.selects RX12 yX12_kinds yX12_kinds, Cond.code yX12_kinds cX12_kinds 11 (some .int), Cond.methodLink RX12 251 yX12_tryOf, Cond.static yX12_tryOf, Cond.code yX12_tryOf cX12_tryOf 9 (some .int), Cond.methodLink RL 123 yX11_wishes, Cond.instanceMethod yX11_wishes, Cond.selects RX11 yX11_wishes yX11_wishes, Cond.code yX11_wishes cX11_wishes 7 (some .int), Cond.methodLink RL 126 yX12_wishes, Cond.instanceMethod yX12_wishes, Cond.selects RX12 yX12_wishes yX12_wishes, Cond.code yX12_wishes cX12_wishes 7 (some .int), Cond.methodLink RL 127 yX11_count, Cond.instanceMethod yX11_count, Cond.selects RX11 yX11_count yX11_count, Cond.code yX11_count cX11_count 2 (some .int), Cond.fieldLink RX11 317 "WaxCloth$Cloth" "dyes" "I"]
def wsL_law_r39 : List Cond := [Cond.fieldLink RX11 320 "WaxCloth$Cloth" "stencils" "I", Cond.methodLink RX11 323 yX2_waxedSet, Cond.instanceMethod yX2_waxedSet, Cond.selects RX2 yX2_waxedSet yX2_waxedSet, Cond.code yX2_waxedSet cX2_waxedSet 3 (some .int), Cond.methodLink RX11 326 yX2_darknessOf, Cond.methodLink RL 130 yX12_count, Cond.instanceMethod yX12_count, Cond.selects RX12 yX12_count yX12_count, Cond.code yX12_count cX12_count 4 (some .int)]
def wsL_law : List Cond := (wsL_law_r1 ++ (wsL_law_r2 ++ (wsL_law_r3 ++ (wsL_law_r4 ++ (wsL_law_r5 ++ (wsL_law_r6 ++ (wsL_law_r7 ++ (wsL_law_r8 ++ (wsL_law_r9 ++ (wsL_law_r10 ++ (wsL_law_r11 ++ (wsL_law_r12 ++ (wsL_law_r13 ++ (wsL_law_r14 ++ (wsL_law_r15 ++ (wsL_law_r16 ++ (wsL_law_r17 ++ (wsL_law_r18 ++ (wsL_law_r19 ++ (wsL_law_r20 ++ (wsL_law_r21 ++ (wsL_law_r22 ++ (wsL_law_r23 ++ (wsL_law_r24 ++ (wsL_law_r25 ++ (wsL_law_r26 ++ (wsL_law_r27 ++ (wsL_law_r28 ++ (wsL_law_r29 ++ (wsL_law_r30 ++ (wsL_law_r31 ++ (wsL_law_r32 ++ (wsL_law_r33 ++ (wsL_law_r34 ++ (wsL_law_r35 ++ (wsL_law_r36 ++ (wsL_law_r37 ++ (wsL_law_r38 ++ wsL_law_r39)))))))))))))))))))))))))))))))))))))) ++ wsX110 ++ wsX120 ++ wsX100 ++ wsX60 ++ wsX20 ++ wsX40 ++ wsX80 ++ wsX50 ++ wsX00 ++ wsX10 ++ wsX70 ++ ([] : List Cond)
set_option maxRecDepth 20000 in
theorem tw_good : GoodIn lw_tbl wsL_law := goodIn_p wsL_law [63, 66, 71, 86, 92, 162, 183, 202, 228, 253, 282, 783, 330, 334, 856, 860, 338, 342, 346, 350, 354, 358, 361, 365, 369, 373, 377, 381, 385, 392, 864, 868, 872, 876, 880, 883, 887, 891, 895, 899, 902, 396, 400, 403, 406, 412, 409, 415, 419, 906, 910, 914, 917, 920, 425, 428, 924, 434, 438, 441, 445, 931, 935, 449, 453, 939, 457, 461, 469, 466, 943, 947, 950, 953, 473, 477, 481, 488, 494, 498, 503, 507, 511, 514, 518, 521, 525, 957, 961, 968, 972, 976, 979, 982, 986, 990, 530, 534, 994, 538, 998, 542, 1003, 547, 1007, 551, 555, 560, 564, 571, 575, 579, 582, 587, 1011, 1016, 1020, 1024, 1027, 591, 594, 597, 601, 605, 609, 1031, 1035, 1039, 1043, 615, 1047, 619, 623, 630, 633, 1051, 638, 643, 655, 1055, 1063, 660, 663, 666, 670, 1114, 1070, 674, 678, 682, 1118, 686, 691, 696, 700, 1122, 1074, 1125, 704, 1129, 710, 1067, 714, 718, 722, 1078, 1082, 726, 730, 733, 738, 1086, 1090, 1094, 744, 747, 752, 755, 759, 762, 1098, 1102, 769, 1106, 773, 777, 1110] (by decide +kernel) (by decide +kernel)
theorem wsL_law_in : ∀ w ∈ wsL_law, w ∈ lw_tbl := fun w h => (tw_good w h).1
theorem inlX0 : ∀ w ∈ wsX00, w ∈ wsL_law := fun _ h => List.mem_append_left _ (List.mem_append_left _ (List.mem_append_left _ (List.mem_append_right _ h)))
theorem inlX1 : ∀ w ∈ wsX10, w ∈ wsL_law := fun _ h => List.mem_append_left _ (List.mem_append_left _ (List.mem_append_right _ h))
theorem inlX2 : ∀ w ∈ wsX20, w ∈ wsL_law := fun _ h => List.mem_append_left _ (List.mem_append_left _ (List.mem_append_left _ (List.mem_append_left _ (List.mem_append_left _ (List.mem_append_left _ (List.mem_append_left _ (List.mem_append_right _ h)))))))
theorem inlX4 : ∀ w ∈ wsX40, w ∈ wsL_law := fun _ h => List.mem_append_left _ (List.mem_append_left _ (List.mem_append_left _ (List.mem_append_left _ (List.mem_append_left _ (List.mem_append_left _ (List.mem_append_right _ h))))))
theorem inlX5 : ∀ w ∈ wsX50, w ∈ wsL_law := fun _ h => List.mem_append_left _ (List.mem_append_left _ (List.mem_append_left _ (List.mem_append_left _ (List.mem_append_right _ h))))
theorem inlX6 : ∀ w ∈ wsX60, w ∈ wsL_law := fun _ h => List.mem_append_left _ (List.mem_append_left _ (List.mem_append_left _ (List.mem_append_left _ (List.mem_append_left _ (List.mem_append_left _ (List.mem_append_left _ (List.mem_append_left _ (List.mem_append_right _ h))))))))
theorem inlX7 : ∀ w ∈ wsX70, w ∈ wsL_law := fun _ h => List.mem_append_left _ (List.mem_append_right _ h)
theorem inlX8 : ∀ w ∈ wsX80, w ∈ wsL_law := fun _ h => List.mem_append_left _ (List.mem_append_left _ (List.mem_append_left _ (List.mem_append_left _ (List.mem_append_left _ (List.mem_append_right _ h)))))
theorem inlX10 : ∀ w ∈ wsX100, w ∈ wsL_law := fun _ h => List.mem_append_left _ (List.mem_append_left _ (List.mem_append_left _ (List.mem_append_left _ (List.mem_append_left _ (List.mem_append_left _ (List.mem_append_left _ (List.mem_append_left _ (List.mem_append_left _ (List.mem_append_right _ h)))))))))
theorem inlX11 : ∀ w ∈ wsX110, w ∈ wsL_law := fun _ h => List.mem_append_left _ (List.mem_append_left _ (List.mem_append_left _ (List.mem_append_left _ (List.mem_append_left _ (List.mem_append_left _ (List.mem_append_left _ (List.mem_append_left _ (List.mem_append_left _ (List.mem_append_left _ (List.mem_append_left _ (List.mem_append_right _ h)))))))))))
theorem inlX12 : ∀ w ∈ wsX120, w ∈ wsL_law := fun _ h => List.mem_append_left _ (List.mem_append_left _ (List.mem_append_left _ (List.mem_append_left _ (List.mem_append_left _ (List.mem_append_left _ (List.mem_append_left _ (List.mem_append_left _ (List.mem_append_left _ (List.mem_append_left _ (List.mem_append_right _ h))))))))))
abbrev vwCl : List vw_C := [(RX0, TX0, 5), (RX1, TX1, 6), (RX2, TX2, 9), (RX4, TX4, 3), (RX5, TX5, 5), (RX6, TX6, 3), (RX7, TX7, 2), (RX8, TX8, 3), (RX10, TX10, 2), (RX11, TX11, 11), (RX12, TX12, 22)]
