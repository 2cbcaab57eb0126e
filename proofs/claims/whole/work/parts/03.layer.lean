/-! THE LAYER: one picture of all cells (98 of them: the class's and the reference's), a state of ints and longs over it; a row an instruction. -/
def WS : List Cond := lw_tbl.filter goodWord
theorem ws_in {w : Cond} (i : Nat) (h : lw_tbl[i]? = some w) (hg : goodWord w = true) : w ∈ WS := List.mem_filter.mpr ⟨List.mem_of_getElem? h, hg⟩
theorem WS_good : GoodIn lw_tbl WS := fun _ h => ⟨(List.mem_filter.mp h).1, good_of_word (List.mem_filter.mp h).2⟩
theorem WS_self : GoodIn WS WS := fun _ h => ⟨h, good_of_word (List.mem_filter.mp h).2⟩
theorem WS_cons {w : Cond} (hw : w ∈ WS) : GoodIn WS (w :: WS) := fun v h => (List.mem_cons.mp h).elim (fun e => by rw [e]; exact WS_self w hw) (WS_self v)
theorem WS_mem {ws : List Cond} (h : GoodIn lw_tbl ws) (hg : ws.all goodWord = true) : ∀ w ∈ ws, w ∈ WS := fun w hw => List.mem_filter.mpr ⟨(h w hw).1, List.all_eq_true.mp hg w hw⟩
abbrev gS : Type := (Nat → Nat → Int32) × (Nat → Nat → Int64)
/-- class numbers and slots; the array classes; the cells' addresses; the static table -/
abbrev gX : Type := va_G × (Nat → ClassId) × (Nat → Nat) × Nat
abbrev oN : Option Nat := none
def ds0 : List (Nat × Nat × List (Option Nat)) := [(6, 9, [some 1, some 3, some 10, some 16, some 42, some 55, some 64, some 73, some 77, some 80, some 81]),
  (6, 8, [oN, some 2]),
  (0, 80, []),
  (6, 5, [some 4, oN, some 1]),
  (6, 2, [oN, oN, oN, oN, some 5, some 6, some 7, some 8, some 9]),
  (0, 8, []),
  (0, 8, []),
  (0, 8, []),
  (0, 12, []),
  (0, 3, []),
  (6, 2, [oN, oN, oN, oN, some 11, some 12, some 13, some 14, some 15]),
  (0, 8, []),
  (0, 8, []),
  (0, 8, []),
  (0, 12, []),
  (0, 3, []),
  (6, 3, [oN, oN, some 17]),
  (5, 24, [some 18, some 19, some 20, some 21, some 22, some 23, some 24, some 25, some 26, some 27, some 28, some 29, some 30, some 31, some 32, some 33, some 34, some 35, some 36, some 37, some 38, some 39, some 40, some 41]),
  (0, 8, []),
  (0, 8, []),
  (0, 8, []),
  (0, 8, []),
  (0, 8, []),
  (0, 8, []),
  (0, 8, []),
  (0, 8, []),
  (0, 8, []),
  (0, 8, []),
  (0, 8, []),
  (0, 8, []),
  (0, 8, []),
  (0, 8, []),
  (0, 8, []),
  (0, 8, []),
  (0, 8, []),
  (0, 8, []),
  (0, 8, []),
  (0, 8, []),
  (0, 8, []),
  (0, 8, []),
  (0, 8, []),
  (0, 8, []),
  (3, 2, [some 43, some 49]),
  (6, 2, [oN, oN, oN, oN, some 44, some 45, some 46, some 47, some 48]),
  (0, 8, []),
  (0, 8, []),
  (0, 8, []),
  (0, 12, []),
  (0, 3, []),
  (6, 2, [oN, oN, oN, oN, some 50, some 51, some 52, some 53, some 54]),
  (0, 8, []),
  (0, 8, []),
  (0, 8, []),
  (0, 12, []),
  (0, 3, []),
  (4, 4, [some 56, some 58, some 60, some 62]),
  (6, 7, [oN, oN, some 57]),
  (1, 24, []),
  (6, 7, [oN, oN, some 59]),
  (1, 24, []),
  (6, 7, [oN, oN, some 61]),
  (1, 24, []),
  (6, 7, [oN, oN, some 63]),
  (1, 24, []),
  (6, 4, [oN, oN, some 65, some 66, some 67]),
  (0, 4, []),
  (0, 4, []),
  (5, 5, [some 68, some 69, some 70, some 71, some 72]),
  (0, 8, []),
  (0, 8, []),
  (0, 8, []),
  (0, 8, []),
  (0, 8, []),
  (6, 0, [oN, oN, some 74, some 75, some 76]),
  (0, 5, []),
  (0, 5, []),
  (1, 64, []),
  (6, 1, [oN, oN, oN, oN, some 78, some 79]),
  (0, 9, []),
  (0, 8, []),
  (6, 6, [oN, oN]),
  (0, 20, []),
  (6, 10, [some 83, some 84, some 85, some 86, some 87, oN, some 88, oN, some 89, some 90, some 91, oN, some 92, some 93, some 94, oN, oN, some 95, some 96, some 97, oN, oN]),
  (0, 26, []),
  (0, 26, []),
  (0, 8, []),
  (0, 40, []),
  (0, 40, []),
  (0, 768, []),
  (0, 134, []),
  (2, 2, []),
  (0, 80, []),
  (0, 4, []),
  (0, 4, []),
  (1, 96, []),
  (2, 1000, []),
  (1, 10, []),
  (0, 4000, [])]
abbrev NC : Nat := 98
def ds (c : Nat) : Nat × Nat × List (Option Nat) := ds0.getD c (9, 0, [])
abbrev isO (c ci : Nat) : Prop := (ds c).1 = 6 ∧ (ds c).2.1 = ci
abbrev isI (c n : Nat) : Prop := (ds c).1 = 0 ∧ (ds c).2.1 = n
abbrev isJ (c n : Nat) : Prop := (ds c).1 = 1 ∧ (ds c).2.1 = n
abbrev isZ (c n : Nat) : Prop := (ds c).1 = 2 ∧ (ds c).2.1 = n
abbrev ln (c : Nat) : Nat := (ds c).2.1
abbrev inR (i : Int32) (n : Nat) : Prop := ¬ (i < 0 ∨ n ≤ i.toNatClampNeg)
def gF (ad : Nat → Nat) (m : Nat → Int32) : Nat → List (Option Nat) → List Value
  | _, [] => []
  | k, none :: l => .int (m k) :: gF ad m (k + 1) l
  | k, some j :: l => .ref (ad j) :: gF ad m (k + 1) l
theorem gF_int {ad : Nat → Nat} {m : Nat → Int32} : ∀ (l : List (Option Nat)) (k i : Nat), l[i]? = some none → (gF ad m k l)[i]? = some (.int (m (k + i)))
  | [], k, i, h => by simp at h
  | none :: l, k, 0, h => rfl
  | some j :: l, k, 0, h => by simp at h
  | none :: l, k, i + 1, h => by
    have := gF_int (ad := ad) (m := m) l (k + 1) i (by simpa using h)
    rw [show k + (i + 1) = k + 1 + i by omega]; exact this
  | some j :: l, k, i + 1, h => by
    have := gF_int (ad := ad) (m := m) l (k + 1) i (by simpa using h)
    rw [show k + (i + 1) = k + 1 + i by omega]; exact this
theorem gF_ref {ad : Nat → Nat} {m : Nat → Int32} {q : Nat} : ∀ (l : List (Option Nat)) (k i : Nat), l[i]? = some (some q) → (gF ad m k l)[i]? = some (.ref (ad q))
  | [], k, i, h => by simp at h
  | none :: l, k, 0, h => by simp at h
  | some j :: l, k, 0, h => by
    have e : j = q := by simpa using h
    subst e; rfl
  | none :: l, k, i + 1, h => gF_ref l (k + 1) i (by simpa using h)
  | some j :: l, k, i + 1, h => gF_ref l (k + 1) i (by simpa using h)
theorem gF_len {ad : Nat → Nat} {m : Nat → Int32} : ∀ (l : List (Option Nat)) (k : Nat), (gF ad m k l).length = l.length
  | [], k => rfl
  | none :: l, k => by show (gF ad m (k + 1) l).length + 1 = _; rw [gF_len l (k + 1)]; rfl
  | some j :: l, k => by show (gF ad m (k + 1) l).length + 1 = _; rw [gF_len l (k + 1)]; rfl
theorem gF_congr {ad : Nat → Nat} {m m' : Nat → Int32} : ∀ (l : List (Option Nat)) (k : Nat), (∀ j, k ≤ j → m j = m' j) → gF ad m k l = gF ad m' k l
  | [], k, h => rfl
  | none :: l, k, h => by
    show Value.int (m k) :: gF ad m (k + 1) l = Value.int (m' k) :: gF ad m' (k + 1) l
    rw [h k (Nat.le_refl _), gF_congr l (k + 1) (fun j hj => h j (by omega))]
  | some j :: l, k, h => by
    show Value.ref (ad j) :: gF ad m (k + 1) l = Value.ref (ad j) :: gF ad m' (k + 1) l
    rw [gF_congr l (k + 1) (fun j hj => h j (by omega))]
theorem gF_set {ad : Nat → Nat} {m : Nat → Int32} {v : Int32} : ∀ (l : List (Option Nat)) (k i : Nat), l[i]? = some none → (gF ad m k l).set i (.int v) = gF ad (upd m (k + i) v) k l
  | [], k, i, h => by simp at h
  | none :: l, k, 0, h => by
    show Value.int v :: gF ad m (k + 1) l = Value.int (upd m (k + 0) v k) :: gF ad (upd m (k + 0) v) (k + 1) l
    rw [show upd m (k + 0) v k = v by simp [upd]]
    rw [gF_congr (m := m) (m' := upd m (k + 0) v) l (k + 1) (fun j hj => by simp [upd, show j ≠ k by omega])]
  | some j :: l, k, 0, h => by simp at h
  | none :: l, k, i + 1, h => by
    show Value.int (m k) :: (gF ad m (k + 1) l).set i (.int v) = Value.int (upd m (k + (i + 1)) v k) :: gF ad (upd m (k + (i + 1)) v) (k + 1) l
    rw [gF_set l (k + 1) i (by simpa using h), show k + 1 + i = k + (i + 1) by omega, show upd m (k + (i + 1)) v k = m k by simp [upd]]
  | some j :: l, k, i + 1, h => by
    show Value.ref (ad j) :: (gF ad m (k + 1) l).set i (.int v) = Value.ref (ad j) :: gF ad (upd m (k + (i + 1)) v) (k + 1) l
    rw [gF_set l (k + 1) i (by simpa using h), show k + 1 + i = k + (i + 1) by omega]
def gR (ad : Nat → Nat) (l : List (Option Nat)) : Nat → Option Nat := fun j => (l.getD j none).map ad
def gE (X : gX) (c : Nat) (m : Nat → Int32) (g : Nat → Int64) : va_E :=
  match (ds c).1 with
  | 0 => .inl (X.2.1 0, (ds c).2.1, .inl m)
  | 1 => .inl (X.2.1 1, (ds c).2.1, .inr (.inl g))
  | 2 => .inl (X.2.1 2, (ds c).2.1, .inl m)
  | 3 => .inl (X.2.1 3, (ds c).2.1, .inr (.inr (.inr (.inr (gR X.2.2.1 (ds c).2.2)))))
  | 4 => .inl (X.2.1 4, (ds c).2.1, .inr (.inr (.inr (.inr (gR X.2.2.1 (ds c).2.2)))))
  | 5 => .inl (X.2.1 5, (ds c).2.1, .inr (.inr (.inr (.inr (gR X.2.2.1 (ds c).2.2)))))
  | _ => .inr ((ds c).2.1, gF X.2.2.1 m 0 (ds c).2.2)
def gw (X : gX) (σ : gS) : va_W := (List.range NC).map (fun c => (X.2.2.1 c, gE X c (σ.1 c) (σ.2 c)))
theorem gw_get {X : gX} {σ : gS} {c : Nat} (h : c < NC) : (gw X σ)[c]? = some (X.2.2.1 c, gE X c (σ.1 c) (σ.2 c)) := by
  unfold gw; rw [List.getElem?_map, List.getElem?_range h]; rfl
theorem gw_of {X : gX} {σ : gS} {c : Nat} {q : Nat × va_E} (h : (gw X σ)[c]? = some q) : c < NC ∧ q = (X.2.2.1 c, gE X c (σ.1 c) (σ.2 c)) := by
  have hl : c < NC := by
    have := (List.getElem?_eq_some_iff.mp h).1
    unfold gw at this; rw [List.length_map, List.length_range] at this; exact this
  rw [gw_get hl] at h
  exact ⟨hl, (Option.some.inj h).symm⟩
def s1 (σ : gS) (c : Nat) (f : Nat → Int32) : gS := (fun d => if d = c then f else σ.1 d, σ.2)
def s2 (σ : gS) (c : Nat) (g : Nat → Int64) : gS := (σ.1, fun d => if d = c then g else σ.2 d)
theorem gw_s1 {X : gX} {σ : gS} {c : Nat} {f : Nat → Int32} (h : c < NC) : (gw X σ).set c (X.2.2.1 c, gE X c f (σ.2 c)) = gw X (s1 σ c f) := by
  apply List.ext_getElem?
  intro k
  by_cases hk : k < NC
  · by_cases hkc : c = k
    · subst hkc
      rw [List.getElem?_set_self (by unfold gw; rw [List.length_map, List.length_range]; exact h), gw_get hk]
      simp [s1]
    · rw [List.getElem?_set_ne hkc, gw_get hk, gw_get hk]
      simp [s1, Ne.symm hkc]
  · rw [List.getElem?_eq_none (by rw [List.length_set]; unfold gw; rw [List.length_map, List.length_range]; omega), List.getElem?_eq_none (by unfold gw; rw [List.length_map, List.length_range]; omega)]
theorem gw_s2 {X : gX} {σ : gS} {c : Nat} {g : Nat → Int64} (h : c < NC) : (gw X σ).set c (X.2.2.1 c, gE X c (σ.1 c) g) = gw X (s2 σ c g) := by
  apply List.ext_getElem?
  intro k
  by_cases hk : k < NC
  · by_cases hkc : c = k
    · subst hkc
      rw [List.getElem?_set_self (by unfold gw; rw [List.length_map, List.length_range]; exact h), gw_get hk]
      simp [s2]
    · rw [List.getElem?_set_ne hkc, gw_get hk, gw_get hk]
      simp [s2, Ne.symm hkc]
  · rw [List.getElem?_eq_none (by rw [List.length_set]; unfold gw; rw [List.length_map, List.length_range]; omega), List.getElem?_eq_none (by unfold gw; rw [List.length_map, List.length_range]; omega)]
theorem ds_lt {c : Nat} (h : (ds c).1 ≠ 9) : c < NC := by
  apply Nat.lt_of_not_le
  intro hc
  apply h
  unfold ds
  rw [List.getD_eq_getElem?_getD, List.getElem?_eq_none (by exact hc)]
  rfl
theorem isO_lt {c ci : Nat} (h : isO c ci) : c < NC := ds_lt (by rw [h.1]; decide)
theorem isI_lt {c n : Nat} (h : isI c n) : c < NC := ds_lt (by rw [h.1]; decide)
theorem isJ_lt {c n : Nat} (h : isJ c n) : c < NC := ds_lt (by rw [h.1]; decide)
theorem isZ_lt {c n : Nat} (h : isZ c n) : c < NC := ds_lt (by rw [h.1]; decide)
theorem gE_O {X : gX} {c ci : Nat} {m : Nat → Int32} {g : Nat → Int64} (h : isO c ci) : gE X c m g = .inr (ci, gF X.2.2.1 m 0 (ds c).2.2) := by
  unfold gE; rw [h.1, h.2]; rfl
theorem gE_I {X : gX} {c n : Nat} {m : Nat → Int32} {g : Nat → Int64} (h : isI c n) : gE X c m g = .inl (X.2.1 0, n, .inl m) := by
  unfold gE; rw [h.1, h.2]; rfl
theorem gE_J {X : gX} {c n : Nat} {m : Nat → Int32} {g : Nat → Int64} (h : isJ c n) : gE X c m g = .inl (X.2.1 1, n, .inr (.inl g)) := by
  unfold gE; rw [h.1, h.2]; rfl
theorem gE_Z {X : gX} {c n : Nat} {m : Nat → Int32} {g : Nat → Int64} (h : isZ c n) : gE X c m g = .inl (X.2.1 2, n, .inl m) := by
  unfold gE; rw [h.1, h.2]; rfl
def gTy (X : gX) : List (ClassId × FieldType) := [(X.2.1 0, .int), (X.2.1 1, .long), (X.2.1 2, .boolean), (X.2.1 3, .object "WaxCloth$Cloth"), (X.2.1 4, .object "WaxCloth$Sheet"), (X.2.1 5, .array .int)]
def gA (X : gX) : Nat → Prop := fun q => ∃ c, c < NC ∧ q = X.2.2.1 c
def gDj (X : gX) : Prop := ∀ i j, i < NC → j < NC → X.2.2.1 i = X.2.2.1 j → i = j
theorem gD {X : gX} (h : gDj X) (σ : gS) : va_D (gA X) (gw X σ) := by
  refine ⟨fun i j x y hi hj hxy => ?_, fun k q hk => ?_⟩
  · obtain ⟨h1, rfl⟩ := gw_of hi
    obtain ⟨h2, rfl⟩ := gw_of hj
    exact h i j h1 h2 hxy
  · obtain ⟨h1, rfl⟩ := gw_of hk
    exact ⟨k, h1, rfl⟩
def abv (j : Nat) : Int32 := match j with
  | 0 => -1 | 1 => 0 | 2 => 1 | 3 => 1 | 4 => 0 | _ => 4
def gZ (X : gX) (U : State) (H : Heap) : Prop := va_Z "WaxCloth$Kind" "ABOVE" "[I" (.ref X.2.2.2) (gA X) U H ∧ va_T .int X.2.2.2 6 (fun j => .int (abv j)) (gA X) U H
def gH (X : gX) (σ : gS) (U : State) : Prop := va_P X.1 vwCl (gw X σ) U.heap ∧ va_K X.1 vwCl (gTy X) U ∧ gDj X ∧ gZ X U U.heap
def gQ (X : gX) (v : Option Value) (σ : gS) : Array Value → State → Outcome → State → Prop := fun _ st o t => (o = .returned v ∧ gH X σ t) ∧ va_F (gA X) st t
def rmd (d : Nat) : Room := { frames := d, cells := 0, slots := 0, locals := 64 * d }
def gCt (l : Launch) (X : gX) (y : MethodName) (w : Cond) (d : Nat) (as : List Value) (σ : gS) (v : Option Value) (σ' : gS) : Prop :=
  Met l y (w :: WS) (rmd d) (va_Pc as (gH X σ)) (gQ X v σ') 0 0 (gA X)
abbrev gM : Type := (Program × Launch × Env × Room × State × MethodId × Array Value × List Frame × Method × Code) × gX × Nat × Option Value × gS
def gAt (G : gM) (pc : Nat) (L : List (Nat × Value)) (st : List Value) (σ : gS) : Prop :=
  match G with
  | ((p, l, e, R, s, m, args, below, meth, c), X, nL, v0, σ0) => ∀ (H : Heap) (locs : List Loc) (ls : Array Slot), lv_has ls nL L → va_P X.1 vwCl (gw X σ) H → va_S (gA X) s.heap H locs → W p l e R s m args below meth c H locs 0 0 (MQ below (gQ X v0 σ0) args s 0 0 (gA X)) (F0 m pc ls st)
def gOk (G : gM) (own : String) (cc : ByteArray) (d : Nat) (rt : Option FieldType) (nL : Nat) : Prop :=
  match G with
  | ((p, l, e, R, s, m, args, below, meth, c), X, nL', v0, σ0) => p.tables.exec = Jvm.exec ∧ c.code = cc ∧ c.maxLocals = nL ∧ nL' = nL ∧ s.vm.findClass own = some m.cls ∧ (∀ w ∈ WS, w.before args s = true) ∧ meth.locks = false ∧ meth.sig.returnType = rt ∧ R = rmd d ∧ va_K X.1 vwCl (gTy X) s ∧ gDj X ∧ gZ X s s.heap
section ROWS
variable {G : gM} {own : String} {cc : ByteArray} {d : Nat} {rt : Option FieldType} {nL : Nat} {pc n : Nat} {L L' : List (Nat × Value)} {st : List Value} {σ : gS}
theorem a_iconst (ho : gOk G own cc d rt nL) {z : Int} {v : Int32} (hd : decode cc pc = .ok (.iconst z, 1)) (hn : pc + 1 = n) (hv : Int32.ofInt z = v) (k : gAt G n L (.int v :: st) σ) : gAt G pc L (st) σ := by
  subst hn; obtain ⟨⟨p, l, e, R, s, m, args, below, meth, c0⟩, X, nL0, v0, σ0⟩ := G; exact fun H locs ls hl hP hS => lv_iconst ho.1 ho.2.1 hd hv (k H locs ls hl hP hS)
theorem a_bipush (ho : gOk G own cc d rt nL) {z : Int} {v : Int32} (hd : decode cc pc = .ok (.bipush z, 2)) (hn : pc + 2 = n) (hv : (Int8.ofInt z).toInt32 = v) (k : gAt G n L (.int v :: st) σ) : gAt G pc L (st) σ := by
  subst hn; obtain ⟨⟨p, l, e, R, s, m, args, below, meth, c0⟩, X, nL0, v0, σ0⟩ := G; exact fun H locs ls hl hP hS => lv_bipush ho.1 ho.2.1 hd hv (k H locs ls hl hP hS)
theorem a_sipush (ho : gOk G own cc d rt nL) {z : Int} {v : Int32} (hd : decode cc pc = .ok (.sipush z, 3)) (hn : pc + 3 = n) (hv : (Int16.ofInt z).toInt32 = v) (k : gAt G n L (.int v :: st) σ) : gAt G pc L (st) σ := by
  subst hn; obtain ⟨⟨p, l, e, R, s, m, args, below, meth, c0⟩, X, nL0, v0, σ0⟩ := G; exact fun H locs ls hl hP hS => lv_sipush ho.1 ho.2.1 hd hv (k H locs ls hl hP hS)
theorem a_lconst (ho : gOk G own cc d rt nL) {z : Fin 2} {v : Int64} (hd : decode cc pc = .ok (.lconst z, 1)) (hn : pc + 1 = n) (hv : Int64.ofNat (z : Nat) = v) (k : gAt G n L (.long v :: st) σ) : gAt G pc L (st) σ := by
  subst hn; obtain ⟨⟨p, l, e, R, s, m, args, below, meth, c0⟩, X, nL0, v0, σ0⟩ := G; exact fun H locs ls hl hP hS => lv_lconst ho.1 ho.2.1 hd hv (k H locs ls hl hP hS)
theorem a_ldc (ho : gOk G own cc d rt nL) {i : Nat} {v : Int32} (hd : decode cc pc = .ok (.ldc i, 2)) (hn : pc + 2 = n) (hv : Cond.constant own i v ∈ WS) (k : gAt G n L (.int v :: st) σ) : gAt G pc L (st) σ := by
  subst hn; obtain ⟨⟨p, l, e, R, s, m, args, below, meth, c0⟩, X, nL0, v0, σ0⟩ := G; exact fun H locs ls hl hP hS => lv_ldc ho.1 ho.2.1 ho.2.2.2.2.1 (ho.2.2.2.2.2.1 _ hv) hd (k H locs ls hl hP hS)
theorem a_ldcw (ho : gOk G own cc d rt nL) {i : Nat} {v : Int32} (hd : decode cc pc = .ok (.ldc_w i, 3)) (hn : pc + 3 = n) (hv : Cond.constant own i v ∈ WS) (k : gAt G n L (.int v :: st) σ) : gAt G pc L (st) σ := by
  subst hn; obtain ⟨⟨p, l, e, R, s, m, args, below, meth, c0⟩, X, nL0, v0, σ0⟩ := G; exact fun H locs ls hl hP hS => lv_ldcw ho.1 ho.2.1 ho.2.2.2.2.1 (ho.2.2.2.2.2.1 _ hv) hd (k H locs ls hl hP hS)
theorem a_ldc2 (ho : gOk G own cc d rt nL) {i : Nat} {v : Int64} (hd : decode cc pc = .ok (.ldc2_w i, 3)) (hn : pc + 3 = n) (hv : Cond.constantLong own i v ∈ WS) (k : gAt G n L (.long v :: st) σ) : gAt G pc L (st) σ := by
  subst hn; obtain ⟨⟨p, l, e, R, s, m, args, below, meth, c0⟩, X, nL0, v0, σ0⟩ := G; exact fun H locs ls hl hP hS => lv_ldc2 ho.1 ho.2.1 ho.2.2.2.2.1 (ho.2.2.2.2.2.1 _ hv) hd (k H locs ls hl hP hS)
theorem a_iload_n (ho : gOk G own cc d rt nL) {w : Fin 4} {i : Nat} {x : Int32} (hd : decode cc pc = .ok (.iload_n w, 1)) (hn : pc + 1 = n) (hi : (w : Nat) = i) (q : Nat) (hq : L[q]? = some (i, .int x)) (k : gAt G n L (.int x :: st) σ) : gAt G pc L (st) σ := by
  subst hn; obtain ⟨⟨p, l, e, R, s, m, args, below, meth, c0⟩, X, nL0, v0, σ0⟩ := G; exact fun H locs ls hl hP hS => lv_iload_n ho.1 ho.2.1 hd hi (lv_at hl q hq) (k H locs ls hl hP hS)
theorem a_iload (ho : gOk G own cc d rt nL) {i : Nat} {x : Int32} (hd : decode cc pc = .ok (.iload i, 2)) (hn : pc + 2 = n) (q : Nat) (hq : L[q]? = some (i, .int x)) (k : gAt G n L (.int x :: st) σ) : gAt G pc L (st) σ := by
  subst hn; obtain ⟨⟨p, l, e, R, s, m, args, below, meth, c0⟩, X, nL0, v0, σ0⟩ := G; exact fun H locs ls hl hP hS => lv_iload ho.1 ho.2.1 hd (lv_at hl q hq) (k H locs ls hl hP hS)
theorem a_lload_n (ho : gOk G own cc d rt nL) {w : Fin 4} {i : Nat} {x : Int64} (hd : decode cc pc = .ok (.lload_n w, 1)) (hn : pc + 1 = n) (hi : (w : Nat) = i) (q : Nat) (hq : L[q]? = some (i, .long x)) (k : gAt G n L (.long x :: st) σ) : gAt G pc L (st) σ := by
  subst hn; obtain ⟨⟨p, l, e, R, s, m, args, below, meth, c0⟩, X, nL0, v0, σ0⟩ := G; exact fun H locs ls hl hP hS => lv_lload_n ho.1 ho.2.1 hd hi (lv_at hl q hq) (k H locs ls hl hP hS)
theorem a_lload (ho : gOk G own cc d rt nL) {i : Nat} {x : Int64} (hd : decode cc pc = .ok (.lload i, 2)) (hn : pc + 2 = n) (q : Nat) (hq : L[q]? = some (i, .long x)) (k : gAt G n L (.long x :: st) σ) : gAt G pc L (st) σ := by
  subst hn; obtain ⟨⟨p, l, e, R, s, m, args, below, meth, c0⟩, X, nL0, v0, σ0⟩ := G; exact fun H locs ls hl hP hS => lv_lload ho.1 ho.2.1 hd (lv_at hl q hq) (k H locs ls hl hP hS)
theorem a_aload_n (ho : gOk G own cc d rt nL) {w : Fin 4} {i : Nat} {x : Nat} (hd : decode cc pc = .ok (.aload_n w, 1)) (hn : pc + 1 = n) (hi : (w : Nat) = i) (q : Nat) (hq : L[q]? = some (i, .ref x)) (k : gAt G n L (.ref x :: st) σ) : gAt G pc L (st) σ := by
  subst hn; obtain ⟨⟨p, l, e, R, s, m, args, below, meth, c0⟩, X, nL0, v0, σ0⟩ := G; exact fun H locs ls hl hP hS => lv_aload_n ho.1 ho.2.1 hd hi (lv_at hl q hq) (k H locs ls hl hP hS)
theorem a_aload (ho : gOk G own cc d rt nL) {i : Nat} {x : Nat} (hd : decode cc pc = .ok (.aload i, 2)) (hn : pc + 2 = n) (q : Nat) (hq : L[q]? = some (i, .ref x)) (k : gAt G n L (.ref x :: st) σ) : gAt G pc L (st) σ := by
  subst hn; obtain ⟨⟨p, l, e, R, s, m, args, below, meth, c0⟩, X, nL0, v0, σ0⟩ := G; exact fun H locs ls hl hP hS => lv_aload ho.1 ho.2.1 hd (lv_at hl q hq) (k H locs ls hl hP hS)
theorem a_istore_n (ho : gOk G own cc d rt nL) {w : Fin 4} {i : Nat} {x : Int32} (hd : decode cc pc = .ok (.istore_n w, 1)) (hn : pc + 1 = n) (hi : (w : Nat) = i) (hb : i < nL) (hL : (i, Value.int x) :: L.filter (fun q => !(q.1 == i) && !(q.1 + 1 == i && q.2.category == 2)) = L') (k : gAt G n L' st σ) : gAt G pc L (.int x :: st) σ := by
  subst hn; obtain ⟨⟨p, l, e, R, s, m, args, below, meth, c0⟩, X, nL0, v0, σ0⟩ := G; exact fun H locs ls hl hP hS => lv_istore_n ho.1 ho.2.1 hd hi hl (by rw [ho.2.2.2.1]; exact hb) hL (fun ls' hl' => k H locs ls' hl' hP hS)
theorem a_istore (ho : gOk G own cc d rt nL) {i : Nat} {x : Int32} (hd : decode cc pc = .ok (.istore i, 2)) (hn : pc + 2 = n) (hb : i < nL) (hL : (i, Value.int x) :: L.filter (fun q => !(q.1 == i) && !(q.1 + 1 == i && q.2.category == 2)) = L') (k : gAt G n L' st σ) : gAt G pc L (.int x :: st) σ := by
  subst hn; obtain ⟨⟨p, l, e, R, s, m, args, below, meth, c0⟩, X, nL0, v0, σ0⟩ := G; exact fun H locs ls hl hP hS => lv_istore ho.1 ho.2.1 hd hl (by rw [ho.2.2.2.1]; exact hb) hL (fun ls' hl' => k H locs ls' hl' hP hS)
theorem a_lstore_n (ho : gOk G own cc d rt nL) {w : Fin 4} {i : Nat} {x : Int64} (hd : decode cc pc = .ok (.lstore_n w, 1)) (hn : pc + 1 = n) (hi : (w : Nat) = i) (hb : i + 1 < nL) (hL : (i, Value.long x) :: L.filter (fun q => !(q.1 == i) && (!(q.1 == i + 1) && !(q.1 + 1 == i && q.2.category == 2))) = L') (k : gAt G n L' st σ) : gAt G pc L (.long x :: st) σ := by
  subst hn; obtain ⟨⟨p, l, e, R, s, m, args, below, meth, c0⟩, X, nL0, v0, σ0⟩ := G; exact fun H locs ls hl hP hS => lv_lstore_n ho.1 ho.2.1 hd hi hl (by rw [ho.2.2.2.1]; exact hb) hL (fun ls' hl' => k H locs ls' hl' hP hS)
theorem a_lstore (ho : gOk G own cc d rt nL) {i : Nat} {x : Int64} (hd : decode cc pc = .ok (.lstore i, 2)) (hn : pc + 2 = n) (hb : i + 1 < nL) (hL : (i, Value.long x) :: L.filter (fun q => !(q.1 == i) && (!(q.1 == i + 1) && !(q.1 + 1 == i && q.2.category == 2))) = L') (k : gAt G n L' st σ) : gAt G pc L (.long x :: st) σ := by
  subst hn; obtain ⟨⟨p, l, e, R, s, m, args, below, meth, c0⟩, X, nL0, v0, σ0⟩ := G; exact fun H locs ls hl hP hS => lv_lstore ho.1 ho.2.1 hd hl (by rw [ho.2.2.2.1]; exact hb) hL (fun ls' hl' => k H locs ls' hl' hP hS)
theorem a_astore_n (ho : gOk G own cc d rt nL) {w : Fin 4} {i : Nat} {x : Nat} (hd : decode cc pc = .ok (.astore_n w, 1)) (hn : pc + 1 = n) (hi : (w : Nat) = i) (hb : i < nL) (hL : (i, Value.ref x) :: L.filter (fun q => !(q.1 == i) && !(q.1 + 1 == i && q.2.category == 2)) = L') (k : gAt G n L' st σ) : gAt G pc L (.ref x :: st) σ := by
  subst hn; obtain ⟨⟨p, l, e, R, s, m, args, below, meth, c0⟩, X, nL0, v0, σ0⟩ := G; exact fun H locs ls hl hP hS => lv_astore_n ho.1 ho.2.1 hd hi hl (by rw [ho.2.2.2.1]; exact hb) hL (fun ls' hl' => k H locs ls' hl' hP hS)
theorem a_astore (ho : gOk G own cc d rt nL) {i : Nat} {x : Nat} (hd : decode cc pc = .ok (.astore i, 2)) (hn : pc + 2 = n) (hb : i < nL) (hL : (i, Value.ref x) :: L.filter (fun q => !(q.1 == i) && !(q.1 + 1 == i && q.2.category == 2)) = L') (k : gAt G n L' st σ) : gAt G pc L (.ref x :: st) σ := by
  subst hn; obtain ⟨⟨p, l, e, R, s, m, args, below, meth, c0⟩, X, nL0, v0, σ0⟩ := G; exact fun H locs ls hl hP hS => lv_astore ho.1 ho.2.1 hd hl (by rw [ho.2.2.2.1]; exact hb) hL (fun ls' hl' => k H locs ls' hl' hP hS)
theorem a_iinc (ho : gOk G own cc d rt nL) {i : Nat} {z : Int} {x v : Int32} (hd : decode cc pc = .ok (.iinc i z, 3)) (hn : pc + 3 = n) (q : Nat) (hq : L[q]? = some (i, .int x)) (hv : x + Int32.ofInt z = v) (hb : i < nL) (hL : (i, Value.int v) :: L.filter (fun q => !(q.1 == i) && !(q.1 + 1 == i && q.2.category == 2)) = L') (k : gAt G n L' st σ) : gAt G pc L st σ := by
  subst hn; obtain ⟨⟨p, l, e, R, s, m, args, below, meth, c0⟩, X, nL0, v0, σ0⟩ := G; exact fun H locs ls hl hP hS => lv_iinc ho.1 ho.2.1 hd hl hq hv (by rw [ho.2.2.2.1]; exact hb) hL (fun ls' hl' => k H locs ls' hl' hP hS)
theorem a_iadd (ho : gOk G own cc d rt nL) {x y : Int32} (hd : decode cc pc = .ok (.iadd, 1)) (hn : pc + 1 = n)  (k : gAt G n L (.int (x + y) :: st) σ) : gAt G pc L (.int y :: .int x :: st) σ := by
  subst hn; obtain ⟨⟨p, l, e, R, s, m, args, below, meth, c0⟩, X, nL0, v0, σ0⟩ := G; exact fun H locs ls hl hP hS => lv_iadd ho.1 ho.2.1 hd (k H locs ls hl hP hS)
theorem a_isub (ho : gOk G own cc d rt nL) {x y : Int32} (hd : decode cc pc = .ok (.isub, 1)) (hn : pc + 1 = n)  (k : gAt G n L (.int (x - y) :: st) σ) : gAt G pc L (.int y :: .int x :: st) σ := by
  subst hn; obtain ⟨⟨p, l, e, R, s, m, args, below, meth, c0⟩, X, nL0, v0, σ0⟩ := G; exact fun H locs ls hl hP hS => lv_isub ho.1 ho.2.1 hd (k H locs ls hl hP hS)
theorem a_imul (ho : gOk G own cc d rt nL) {x y : Int32} (hd : decode cc pc = .ok (.imul, 1)) (hn : pc + 1 = n)  (k : gAt G n L (.int (x * y) :: st) σ) : gAt G pc L (.int y :: .int x :: st) σ := by
  subst hn; obtain ⟨⟨p, l, e, R, s, m, args, below, meth, c0⟩, X, nL0, v0, σ0⟩ := G; exact fun H locs ls hl hP hS => lv_imul ho.1 ho.2.1 hd (k H locs ls hl hP hS)
theorem a_iand (ho : gOk G own cc d rt nL) {x y : Int32} (hd : decode cc pc = .ok (.iand, 1)) (hn : pc + 1 = n)  (k : gAt G n L (.int (x &&& y) :: st) σ) : gAt G pc L (.int y :: .int x :: st) σ := by
  subst hn; obtain ⟨⟨p, l, e, R, s, m, args, below, meth, c0⟩, X, nL0, v0, σ0⟩ := G; exact fun H locs ls hl hP hS => lv_iand ho.1 ho.2.1 hd (k H locs ls hl hP hS)
theorem a_ior (ho : gOk G own cc d rt nL) {x y : Int32} (hd : decode cc pc = .ok (.ior, 1)) (hn : pc + 1 = n)  (k : gAt G n L (.int (x ||| y) :: st) σ) : gAt G pc L (.int y :: .int x :: st) σ := by
  subst hn; obtain ⟨⟨p, l, e, R, s, m, args, below, meth, c0⟩, X, nL0, v0, σ0⟩ := G; exact fun H locs ls hl hP hS => lv_ior ho.1 ho.2.1 hd (k H locs ls hl hP hS)
theorem a_ixor (ho : gOk G own cc d rt nL) {x y : Int32} (hd : decode cc pc = .ok (.ixor, 1)) (hn : pc + 1 = n)  (k : gAt G n L (.int (x ^^^ y) :: st) σ) : gAt G pc L (.int y :: .int x :: st) σ := by
  subst hn; obtain ⟨⟨p, l, e, R, s, m, args, below, meth, c0⟩, X, nL0, v0, σ0⟩ := G; exact fun H locs ls hl hP hS => lv_ixor ho.1 ho.2.1 hd (k H locs ls hl hP hS)
theorem a_ishl (ho : gOk G own cc d rt nL) {x y : Int32} (hd : decode cc pc = .ok (.ishl, 1)) (hn : pc + 1 = n)  (k : gAt G n L (.int (x <<< (y &&& 31)) :: st) σ) : gAt G pc L (.int y :: .int x :: st) σ := by
  subst hn; obtain ⟨⟨p, l, e, R, s, m, args, below, meth, c0⟩, X, nL0, v0, σ0⟩ := G; exact fun H locs ls hl hP hS => lv_ishl ho.1 ho.2.1 hd (k H locs ls hl hP hS)
theorem a_ishr (ho : gOk G own cc d rt nL) {x y : Int32} (hd : decode cc pc = .ok (.ishr, 1)) (hn : pc + 1 = n)  (k : gAt G n L (.int (x >>> (y &&& 31)) :: st) σ) : gAt G pc L (.int y :: .int x :: st) σ := by
  subst hn; obtain ⟨⟨p, l, e, R, s, m, args, below, meth, c0⟩, X, nL0, v0, σ0⟩ := G; exact fun H locs ls hl hP hS => lv_ishr ho.1 ho.2.1 hd (k H locs ls hl hP hS)
theorem a_iushr (ho : gOk G own cc d rt nL) {x y : Int32} (hd : decode cc pc = .ok (.iushr, 1)) (hn : pc + 1 = n)  (k : gAt G n L (.int ((x.toUInt32 >>> (y.toUInt32 &&& Int32.toUInt32 31)).toInt32) :: st) σ) : gAt G pc L (.int y :: .int x :: st) σ := by
  subst hn; obtain ⟨⟨p, l, e, R, s, m, args, below, meth, c0⟩, X, nL0, v0, σ0⟩ := G; exact fun H locs ls hl hP hS => lv_iushr ho.1 ho.2.1 hd rfl (k H locs ls hl hP hS)
theorem a_ineg (ho : gOk G own cc d rt nL) {x : Int32} (hd : decode cc pc = .ok (.ineg, 1)) (hn : pc + 1 = n)  (k : gAt G n L (.int (-x) :: st) σ) : gAt G pc L (.int x :: st) σ := by
  subst hn; obtain ⟨⟨p, l, e, R, s, m, args, below, meth, c0⟩, X, nL0, v0, σ0⟩ := G; exact fun H locs ls hl hP hS => lv_ineg ho.1 ho.2.1 hd (k H locs ls hl hP hS)
theorem a_idiv (ho : gOk G own cc d rt nL) {x y : Int32} (hd : decode cc pc = .ok (.idiv, 1)) (hn : pc + 1 = n) (hne : ¬ y = 0) (k : gAt G n L (.int (x / y) :: st) σ) : gAt G pc L (.int y :: .int x :: st) σ := by
  subst hn; obtain ⟨⟨p, l, e, R, s, m, args, below, meth, c0⟩, X, nL0, v0, σ0⟩ := G; exact fun H locs ls hl hP hS => lv_idiv ho.1 ho.2.1 hd hne (k H locs ls hl hP hS)
theorem a_irem (ho : gOk G own cc d rt nL) {x y : Int32} (hd : decode cc pc = .ok (.irem, 1)) (hn : pc + 1 = n) (hne : ¬ y = 0) (k : gAt G n L (.int (x - x / y * y) :: st) σ) : gAt G pc L (.int y :: .int x :: st) σ := by
  subst hn; obtain ⟨⟨p, l, e, R, s, m, args, below, meth, c0⟩, X, nL0, v0, σ0⟩ := G; exact fun H locs ls hl hP hS => lv_irem ho.1 ho.2.1 hd hne (k H locs ls hl hP hS)
theorem a_ladd (ho : gOk G own cc d rt nL) {x y : Int64} (hd : decode cc pc = .ok (.ladd, 1)) (hn : pc + 1 = n)  (k : gAt G n L (.long (x + y) :: st) σ) : gAt G pc L (.long y :: .long x :: st) σ := by
  subst hn; obtain ⟨⟨p, l, e, R, s, m, args, below, meth, c0⟩, X, nL0, v0, σ0⟩ := G; exact fun H locs ls hl hP hS => lv_ladd ho.1 ho.2.1 hd (k H locs ls hl hP hS)
theorem a_lmul (ho : gOk G own cc d rt nL) {x y : Int64} (hd : decode cc pc = .ok (.lmul, 1)) (hn : pc + 1 = n)  (k : gAt G n L (.long (x * y) :: st) σ) : gAt G pc L (.long y :: .long x :: st) σ := by
  subst hn; obtain ⟨⟨p, l, e, R, s, m, args, below, meth, c0⟩, X, nL0, v0, σ0⟩ := G; exact fun H locs ls hl hP hS => lv_lmul ho.1 ho.2.1 hd (k H locs ls hl hP hS)
theorem a_land (ho : gOk G own cc d rt nL) {x y : Int64} (hd : decode cc pc = .ok (.land, 1)) (hn : pc + 1 = n)  (k : gAt G n L (.long (x &&& y) :: st) σ) : gAt G pc L (.long y :: .long x :: st) σ := by
  subst hn; obtain ⟨⟨p, l, e, R, s, m, args, below, meth, c0⟩, X, nL0, v0, σ0⟩ := G; exact fun H locs ls hl hP hS => lv_land ho.1 ho.2.1 hd (k H locs ls hl hP hS)
theorem a_lor (ho : gOk G own cc d rt nL) {x y : Int64} (hd : decode cc pc = .ok (.lor, 1)) (hn : pc + 1 = n)  (k : gAt G n L (.long (x ||| y) :: st) σ) : gAt G pc L (.long y :: .long x :: st) σ := by
  subst hn; obtain ⟨⟨p, l, e, R, s, m, args, below, meth, c0⟩, X, nL0, v0, σ0⟩ := G; exact fun H locs ls hl hP hS => lv_lor ho.1 ho.2.1 hd (k H locs ls hl hP hS)
theorem a_ldiv (ho : gOk G own cc d rt nL) {x y : Int64} (hd : decode cc pc = .ok (.ldiv, 1)) (hn : pc + 1 = n) (hne : ¬ y = 0) (k : gAt G n L (.long (x / y) :: st) σ) : gAt G pc L (.long y :: .long x :: st) σ := by
  subst hn; obtain ⟨⟨p, l, e, R, s, m, args, below, meth, c0⟩, X, nL0, v0, σ0⟩ := G; exact fun H locs ls hl hP hS => lv_ldiv ho.1 ho.2.1 hd hne (k H locs ls hl hP hS)
theorem a_lrem (ho : gOk G own cc d rt nL) {x y : Int64} (hd : decode cc pc = .ok (.lrem, 1)) (hn : pc + 1 = n) (hne : ¬ y = 0) (k : gAt G n L (.long (x - x / y * y) :: st) σ) : gAt G pc L (.long y :: .long x :: st) σ := by
  subst hn; obtain ⟨⟨p, l, e, R, s, m, args, below, meth, c0⟩, X, nL0, v0, σ0⟩ := G; exact fun H locs ls hl hP hS => lv_lrem ho.1 ho.2.1 hd hne (k H locs ls hl hP hS)
theorem a_lshl (ho : gOk G own cc d rt nL) {x : Int64} {y : Int32} (hd : decode cc pc = .ok (.lshl, 1)) (hn : pc + 1 = n)  (k : gAt G n L (.long (x <<< (y.toInt64 &&& 63)) :: st) σ) : gAt G pc L (.int y :: .long x :: st) σ := by
  subst hn; obtain ⟨⟨p, l, e, R, s, m, args, below, meth, c0⟩, X, nL0, v0, σ0⟩ := G; exact fun H locs ls hl hP hS => lv_lshl ho.1 ho.2.1 hd rfl (k H locs ls hl hP hS)
theorem a_lcmp (ho : gOk G own cc d rt nL) {x y : Int64} (hd : decode cc pc = .ok (.lcmp, 1)) (hn : pc + 1 = n)  (k : gAt G n L (.int (lg_cmp x y) :: st) σ) : gAt G pc L (.long y :: .long x :: st) σ := by
  subst hn; obtain ⟨⟨p, l, e, R, s, m, args, below, meth, c0⟩, X, nL0, v0, σ0⟩ := G; exact fun H locs ls hl hP hS => W.lcmp ho.1 ho.2.1 hd (k H locs ls hl hP hS)
theorem a_i2l (ho : gOk G own cc d rt nL) {x : Int32} (hd : decode cc pc = .ok (.i2l, 1)) (hn : pc + 1 = n)  (k : gAt G n L (.long x.toInt64 :: st) σ) : gAt G pc L (.int x :: st) σ := by
  subst hn; obtain ⟨⟨p, l, e, R, s, m, args, below, meth, c0⟩, X, nL0, v0, σ0⟩ := G; exact fun H locs ls hl hP hS => lv_i2l ho.1 ho.2.1 hd rfl (k H locs ls hl hP hS)
theorem a_l2i (ho : gOk G own cc d rt nL) {x : Int64} (hd : decode cc pc = .ok (.l2i, 1)) (hn : pc + 1 = n)  (k : gAt G n L (.int x.toInt32 :: st) σ) : gAt G pc L (.long x :: st) σ := by
  subst hn; obtain ⟨⟨p, l, e, R, s, m, args, below, meth, c0⟩, X, nL0, v0, σ0⟩ := G; exact fun H locs ls hl hP hS => lv_l2i ho.1 ho.2.1 hd rfl (k H locs ls hl hP hS)
theorem a_i2b (ho : gOk G own cc d rt nL) {x : Int32} (hd : decode cc pc = .ok (.i2b, 1)) (hn : pc + 1 = n)  (k : gAt G n L (.int x.toInt8.toInt32 :: st) σ) : gAt G pc L (.int x :: st) σ := by
  subst hn; obtain ⟨⟨p, l, e, R, s, m, args, below, meth, c0⟩, X, nL0, v0, σ0⟩ := G; exact fun H locs ls hl hP hS => lv_i2b ho.1 ho.2.1 hd rfl (k H locs ls hl hP hS)
theorem a_i2s (ho : gOk G own cc d rt nL) {x : Int32} (hd : decode cc pc = .ok (.i2s, 1)) (hn : pc + 1 = n)  (k : gAt G n L (.int x.toInt16.toInt32 :: st) σ) : gAt G pc L (.int x :: st) σ := by
  subst hn; obtain ⟨⟨p, l, e, R, s, m, args, below, meth, c0⟩, X, nL0, v0, σ0⟩ := G; exact fun H locs ls hl hP hS => lv_i2s ho.1 ho.2.1 hd rfl (k H locs ls hl hP hS)
theorem a_dup (ho : gOk G own cc d rt nL) {v : Value} (hd : decode cc pc = .ok (.dup, 1)) (hn : pc + 1 = n) (hv : v.category = 1) (k : gAt G n L (v :: v :: st) σ) : gAt G pc L (v :: st) σ := by
  subst hn; obtain ⟨⟨p, l, e, R, s, m, args, below, meth, c0⟩, X, nL0, v0, σ0⟩ := G; exact fun H locs ls hl hP hS => lv_dup ho.1 ho.2.1 hd hv (k H locs ls hl hP hS)
theorem a_pop (ho : gOk G own cc d rt nL) {v : Value} (hd : decode cc pc = .ok (.pop, 1)) (hn : pc + 1 = n) (hv : v.category = 1) (k : gAt G n L (st) σ) : gAt G pc L (v :: st) σ := by
  subst hn; obtain ⟨⟨p, l, e, R, s, m, args, below, meth, c0⟩, X, nL0, v0, σ0⟩ := G; exact fun H locs ls hl hP hS => lv_pop ho.1 ho.2.1 hd hv (k H locs ls hl hP hS)
theorem a_dup_x1 (ho : gOk G own cc d rt nL) {v w : Value} (hd : decode cc pc = .ok (.dup_x1, 1)) (hn : pc + 1 = n) (hv : v.category = 1) (hw : w.category = 1) (k : gAt G n L (v :: w :: v :: st) σ) : gAt G pc L (v :: w :: st) σ := by
  subst hn; obtain ⟨⟨p, l, e, R, s, m, args, below, meth, c0⟩, X, nL0, v0, σ0⟩ := G; exact fun H locs ls hl hP hS => lv_dup_x1 ho.1 ho.2.1 hd hv hw (k H locs ls hl hP hS)
theorem a_dup2 (ho : gOk G own cc d rt nL) {v w : Value} (hd : decode cc pc = .ok (.dup2, 1)) (hn : pc + 1 = n) (hv : v.category = 1) (hw : w.category = 1) (k : gAt G n L (v :: w :: v :: w :: st) σ) : gAt G pc L (v :: w :: st) σ := by
  subst hn; obtain ⟨⟨p, l, e, R, s, m, args, below, meth, c0⟩, X, nL0, v0, σ0⟩ := G; exact fun H locs ls hl hP hS => lv_dup2_11 ho.1 ho.2.1 hd hv hw (k H locs ls hl hP hS)
theorem a_pop2 (ho : gOk G own cc d rt nL) {v : Value} (hd : decode cc pc = .ok (.pop2, 1)) (hn : pc + 1 = n) (hv : v.category = 2) (k : gAt G n L (st) σ) : gAt G pc L (v :: st) σ := by
  subst hn; obtain ⟨⟨p, l, e, R, s, m, args, below, meth, c0⟩, X, nL0, v0, σ0⟩ := G; exact fun H locs ls hl hP hS => lv_pop2_2 ho.1 ho.2.1 hd hv (k H locs ls hl hP hS)
theorem a_if_eq (ho : gOk G own cc d rt nL) {x : Int32} {off : Int} {tgt : Nat} (hd : decode cc pc = .ok (.ifCond .eq off, 3)) (ht : (pc : Int) + off = (tgt : Int)) (hn : pc + 3 = n) (kt : x = 0 → gAt G tgt L st σ) (kf : ¬ x = 0 → gAt G n L st σ) : gAt G pc L (.int x :: st) σ := by
  subst hn; obtain ⟨⟨p, l, e, R, s, m, args, below, meth, c0⟩, X, nL0, v0, σ0⟩ := G; exact fun H locs ls hl hP hS => lv_if_eq ho.1 ho.2.1 hd ht (fun q => kt q H locs ls hl hP hS) (fun q => kf q H locs ls hl hP hS)
theorem a_icmp_eq (ho : gOk G own cc d rt nL) {x y : Int32} {off : Int} {tgt : Nat} (hd : decode cc pc = .ok (.if_icmp .eq off, 3)) (ht : (pc : Int) + off = (tgt : Int)) (hn : pc + 3 = n) (kt : x = y → gAt G tgt L st σ) (kf : ¬ x = y → gAt G n L st σ) : gAt G pc L (.int y :: .int x :: st) σ := by
  subst hn; obtain ⟨⟨p, l, e, R, s, m, args, below, meth, c0⟩, X, nL0, v0, σ0⟩ := G; exact fun H locs ls hl hP hS => lv_icmp_eq ho.1 ho.2.1 hd ht (fun q => kt q H locs ls hl hP hS) (fun q => kf q H locs ls hl hP hS)
theorem a_if_ne (ho : gOk G own cc d rt nL) {x : Int32} {off : Int} {tgt : Nat} (hd : decode cc pc = .ok (.ifCond .ne off, 3)) (ht : (pc : Int) + off = (tgt : Int)) (hn : pc + 3 = n) (kt : ¬ x = 0 → gAt G tgt L st σ) (kf : x = 0 → gAt G n L st σ) : gAt G pc L (.int x :: st) σ := by
  subst hn; obtain ⟨⟨p, l, e, R, s, m, args, below, meth, c0⟩, X, nL0, v0, σ0⟩ := G; exact fun H locs ls hl hP hS => lv_if_ne ho.1 ho.2.1 hd ht (fun q => kt q H locs ls hl hP hS) (fun q => kf q H locs ls hl hP hS)
theorem a_icmp_ne (ho : gOk G own cc d rt nL) {x y : Int32} {off : Int} {tgt : Nat} (hd : decode cc pc = .ok (.if_icmp .ne off, 3)) (ht : (pc : Int) + off = (tgt : Int)) (hn : pc + 3 = n) (kt : ¬ x = y → gAt G tgt L st σ) (kf : x = y → gAt G n L st σ) : gAt G pc L (.int y :: .int x :: st) σ := by
  subst hn; obtain ⟨⟨p, l, e, R, s, m, args, below, meth, c0⟩, X, nL0, v0, σ0⟩ := G; exact fun H locs ls hl hP hS => lv_icmp_ne ho.1 ho.2.1 hd ht (fun q => kt q H locs ls hl hP hS) (fun q => kf q H locs ls hl hP hS)
theorem a_if_lt (ho : gOk G own cc d rt nL) {x : Int32} {off : Int} {tgt : Nat} (hd : decode cc pc = .ok (.ifCond .lt off, 3)) (ht : (pc : Int) + off = (tgt : Int)) (hn : pc + 3 = n) (kt : x < 0 → gAt G tgt L st σ) (kf : ¬ x < 0 → gAt G n L st σ) : gAt G pc L (.int x :: st) σ := by
  subst hn; obtain ⟨⟨p, l, e, R, s, m, args, below, meth, c0⟩, X, nL0, v0, σ0⟩ := G; exact fun H locs ls hl hP hS => lv_if_lt ho.1 ho.2.1 hd ht (fun q => kt q H locs ls hl hP hS) (fun q => kf q H locs ls hl hP hS)
theorem a_icmp_lt (ho : gOk G own cc d rt nL) {x y : Int32} {off : Int} {tgt : Nat} (hd : decode cc pc = .ok (.if_icmp .lt off, 3)) (ht : (pc : Int) + off = (tgt : Int)) (hn : pc + 3 = n) (kt : x < y → gAt G tgt L st σ) (kf : ¬ x < y → gAt G n L st σ) : gAt G pc L (.int y :: .int x :: st) σ := by
  subst hn; obtain ⟨⟨p, l, e, R, s, m, args, below, meth, c0⟩, X, nL0, v0, σ0⟩ := G; exact fun H locs ls hl hP hS => lv_icmp_lt ho.1 ho.2.1 hd ht (fun q => kt q H locs ls hl hP hS) (fun q => kf q H locs ls hl hP hS)
theorem a_if_ge (ho : gOk G own cc d rt nL) {x : Int32} {off : Int} {tgt : Nat} (hd : decode cc pc = .ok (.ifCond .ge off, 3)) (ht : (pc : Int) + off = (tgt : Int)) (hn : pc + 3 = n) (kt : 0 ≤ x → gAt G tgt L st σ) (kf : ¬ 0 ≤ x → gAt G n L st σ) : gAt G pc L (.int x :: st) σ := by
  subst hn; obtain ⟨⟨p, l, e, R, s, m, args, below, meth, c0⟩, X, nL0, v0, σ0⟩ := G; exact fun H locs ls hl hP hS => lv_if_ge ho.1 ho.2.1 hd ht (fun q => kt q H locs ls hl hP hS) (fun q => kf q H locs ls hl hP hS)
theorem a_icmp_ge (ho : gOk G own cc d rt nL) {x y : Int32} {off : Int} {tgt : Nat} (hd : decode cc pc = .ok (.if_icmp .ge off, 3)) (ht : (pc : Int) + off = (tgt : Int)) (hn : pc + 3 = n) (kt : y ≤ x → gAt G tgt L st σ) (kf : ¬ y ≤ x → gAt G n L st σ) : gAt G pc L (.int y :: .int x :: st) σ := by
  subst hn; obtain ⟨⟨p, l, e, R, s, m, args, below, meth, c0⟩, X, nL0, v0, σ0⟩ := G; exact fun H locs ls hl hP hS => lv_icmp_ge ho.1 ho.2.1 hd ht (fun q => kt q H locs ls hl hP hS) (fun q => kf q H locs ls hl hP hS)
theorem a_if_gt (ho : gOk G own cc d rt nL) {x : Int32} {off : Int} {tgt : Nat} (hd : decode cc pc = .ok (.ifCond .gt off, 3)) (ht : (pc : Int) + off = (tgt : Int)) (hn : pc + 3 = n) (kt : 0 < x → gAt G tgt L st σ) (kf : ¬ 0 < x → gAt G n L st σ) : gAt G pc L (.int x :: st) σ := by
  subst hn; obtain ⟨⟨p, l, e, R, s, m, args, below, meth, c0⟩, X, nL0, v0, σ0⟩ := G; exact fun H locs ls hl hP hS => lv_if_gt ho.1 ho.2.1 hd ht (fun q => kt q H locs ls hl hP hS) (fun q => kf q H locs ls hl hP hS)
theorem a_icmp_gt (ho : gOk G own cc d rt nL) {x y : Int32} {off : Int} {tgt : Nat} (hd : decode cc pc = .ok (.if_icmp .gt off, 3)) (ht : (pc : Int) + off = (tgt : Int)) (hn : pc + 3 = n) (kt : y < x → gAt G tgt L st σ) (kf : ¬ y < x → gAt G n L st σ) : gAt G pc L (.int y :: .int x :: st) σ := by
  subst hn; obtain ⟨⟨p, l, e, R, s, m, args, below, meth, c0⟩, X, nL0, v0, σ0⟩ := G; exact fun H locs ls hl hP hS => lv_icmp_gt ho.1 ho.2.1 hd ht (fun q => kt q H locs ls hl hP hS) (fun q => kf q H locs ls hl hP hS)
theorem a_if_le (ho : gOk G own cc d rt nL) {x : Int32} {off : Int} {tgt : Nat} (hd : decode cc pc = .ok (.ifCond .le off, 3)) (ht : (pc : Int) + off = (tgt : Int)) (hn : pc + 3 = n) (kt : x ≤ 0 → gAt G tgt L st σ) (kf : ¬ x ≤ 0 → gAt G n L st σ) : gAt G pc L (.int x :: st) σ := by
  subst hn; obtain ⟨⟨p, l, e, R, s, m, args, below, meth, c0⟩, X, nL0, v0, σ0⟩ := G; exact fun H locs ls hl hP hS => lv_if_le ho.1 ho.2.1 hd ht (fun q => kt q H locs ls hl hP hS) (fun q => kf q H locs ls hl hP hS)
theorem a_icmp_le (ho : gOk G own cc d rt nL) {x y : Int32} {off : Int} {tgt : Nat} (hd : decode cc pc = .ok (.if_icmp .le off, 3)) (ht : (pc : Int) + off = (tgt : Int)) (hn : pc + 3 = n) (kt : x ≤ y → gAt G tgt L st σ) (kf : ¬ x ≤ y → gAt G n L st σ) : gAt G pc L (.int y :: .int x :: st) σ := by
  subst hn; obtain ⟨⟨p, l, e, R, s, m, args, below, meth, c0⟩, X, nL0, v0, σ0⟩ := G; exact fun H locs ls hl hP hS => lv_icmp_le ho.1 ho.2.1 hd ht (fun q => kt q H locs ls hl hP hS) (fun q => kf q H locs ls hl hP hS)
theorem a_goto (ho : gOk G own cc d rt nL) {off : Int} {tgt : Nat} (hd : decode cc pc = .ok (.goto off, 3)) (ht : (pc : Int) + off = (tgt : Int)) (k : gAt G tgt L st σ) : gAt G pc L st σ := by
  obtain ⟨⟨p, l, e, R, s, m, args, below, meth, c0⟩, X, nL0, v0, σ0⟩ := G; exact fun H locs ls hl hP hS => lv_goto ho.1 ho.2.1 hd ht (k H locs ls hl hP hS)
theorem a_tin (ho : gOk G own cc d rt nL) {x : Int32} {dflt lo hi : Int} {offs : Array Int} {len : Nat} {off : Int} {tgt : Nat} (v : Int32) (hx : x = v) (hd : decode cc pc = .ok (.tableswitch dflt lo hi offs, len)) (h1 : ¬ v.toInt < lo) (h2 : ¬ hi < v.toInt) (hof : offs[(v.toInt - lo).toNat]? = some off) (ht : (pc : Int) + off = (tgt : Int)) (k : gAt G tgt L st σ) : gAt G pc L (.int x :: st) σ := by
  subst hx; obtain ⟨⟨p, l, e, R, s, m, args, below, meth, c0⟩, X, nL0, v0, σ0⟩ := G; exact fun H locs ls hl hP hS => lv_tableIn ho.1 ho.2.1 hd h1 h2 hof ht (k H locs ls hl hP hS)
theorem a_tout (ho : gOk G own cc d rt nL) {x : Int32} {dflt lo hi : Int} {offs : Array Int} {len : Nat} {tgt : Nat} (h : x.toInt < lo ∨ hi < x.toInt) (hd : decode cc pc = .ok (.tableswitch dflt lo hi offs, len)) (ht : (pc : Int) + dflt = (tgt : Int)) (k : gAt G tgt L st σ) : gAt G pc L (.int x :: st) σ := by
  obtain ⟨⟨p, l, e, R, s, m, args, below, meth, c0⟩, X, nL0, v0, σ0⟩ := G; exact fun H locs ls hl hP hS => lv_tableOut ho.1 ho.2.1 hd h ht (k H locs ls hl hP hS)
theorem a_look (ho : gOk G own cc d rt nL) {x : Int32} {dflt : Int} {ps : Array (Int × Int)} {len : Nat} {off : Int} {tgt : Nat} (hd : decode cc pc = .ok (.lookupswitch dflt ps, len)) (hp : (ps.toList.zip (ps.toList.drop 1)).all (fun (a, next) => a.1 < next.1) = true) (hof : Op.lookupswitch.offset ps.toList dflt x.toInt = off) (ht : (pc : Int) + off = (tgt : Int)) (k : gAt G tgt L st σ) : gAt G pc L (.int x :: st) σ := by
  obtain ⟨⟨p, l, e, R, s, m, args, below, meth, c0⟩, X, nL0, v0, σ0⟩ := G; exact fun H locs ls hl hP hS => lv_lookup ho.1 ho.2.1 hd hp hof ht (k H locs ls hl hP hS)
end ROWS
def sI (σ : gS) (c k : Nat) (v : Int32) : gS := s1 σ c (upd (σ.1 c) k v)
def sJ (σ : gS) (c k : Nat) (v : Int64) : gS := s2 σ c (vp_updL (σ.2 c) k v)
def cI (σ : gS) (c : Nat) (i : Int32) (c1 : Nat) (j n : Int32) : gS := s1 σ c1 (va_cpy (σ.1 c) (σ.1 c1) i.toNatClampNeg j.toNatClampNeg n.toNatClampNeg)
def cJ (σ : gS) (c : Nat) (i : Int32) (c1 : Nat) (j n : Int32) : gS := s2 σ c1 (va_cpy (σ.2 c) (σ.2 c1) i.toNatClampNeg j.toNatClampNeg n.toNatClampNeg)
section MEM
variable {G : gM} {own : String} {cc : ByteArray} {d : Nat} {rt : Option FieldType} {nL : Nat} {pc n : Nat} {L L' : List (Nat × Value)} {st : List Value} {σ : gS}
abbrev gl (G : gM) : Launch := G.1.2.1
abbrev gXX (G : gM) : gX := G.2.1
abbrev gad (G : gM) : Nat → Nat := G.2.1.2.2.1
abbrev gv0 (G : gM) : Option Value := G.2.2.2.1
abbrev gs0 (G : gM) : gS := G.2.2.2.2
theorem a_sub (ks : List Nat) (hL : lv_pick L ks = L') (k : gAt G pc L' st σ) : gAt G pc L st σ := by
  obtain ⟨⟨p, l, e, R, s, m, args, below, meth, c0⟩, X, nL0, v0, σ0⟩ := G
  exact fun H locs ls hl hP hS => k H locs ls (lv_sub hl ks hL) hP hS
def gFl (own : String) (idx ci k : Nat) : Prop := ∃ (C : String) (T : u_T) (N : Nat), vwCl[ci]? = some (C, T, N) ∧ k < N ∧ (∀ w ∈ u_ws C T N, w ∈ WS) ∧ Cond.fieldLink own idx (T k).1 (T k).2.1 (T k).2.2.1 ∈ WS
def gFp (own : String) (idx ci k : Nat) : Prop := ∃ (C : String) (T : u_T) (N : Nat) (ty : Nat → FieldType), vwCl[ci]? = some (C, T, N) ∧ k < N ∧ (∀ w ∈ u_ws C T N, w ∈ WS) ∧ Cond.fieldLink own idx (T k).1 (T k).2.1 (T k).2.2.1 ∈ WS ∧ (∀ k, k < N → parseFieldDescriptor (T k).2.2.1 = some (ty k)) ∧ (∀ a, a < N → ∀ b, b < N → a ≠ b → (T a).2.1 ≠ (T b).2.1) ∧ (T k).2.2.2 = false ∧ ty k = .int
theorem a_getI (ho : gOk G own cc d rt nL) {c ci idx k : Nat} (hF : gFl own idx ci k) (hO : isO c ci) (hf : (ds c).2.2[k]? = some none) (hd : decode cc pc = .ok (.getfield idx, 3)) (hn : pc + 3 = n) (kk : gAt G n L (.int (σ.1 c k) :: st) σ) : gAt G pc L (.ref (gad G c) :: st) σ := by
  subst hn; obtain ⟨⟨p, l, e, R, s, m, args, below, meth, c0⟩, X, nL0, v0, σ0⟩ := G
  obtain ⟨C, T, N, hcl, hk, hin, hlk⟩ := hF
  intro H locs ls hl hP hS
  have he := gw_get (X := X) (σ := σ) (isO_lt hO)
  rw [gE_O hO] at he
  have hv := gF_int (ad := X.2.2.1) (m := σ.1 c) _ 0 k hf
  rw [Nat.zero_add] at hv
  exact va_get (D := X.1) ho.1 ho.2.1 ho.2.2.2.2.2.1 hin ho.2.2.2.2.1 ho.2.2.2.2.2.2.2.2.2.1 hP c he hcl k hk (ho.2.2.2.2.2.1 _ hlk) (fun _ h9 => h9) hv hd (kk H locs ls hl hP hS)
theorem a_getR (ho : gOk G own cc d rt nL) {c ci idx k q : Nat} (hF : gFl own idx ci k) (hO : isO c ci) (hf : (ds c).2.2[k]? = some (some q)) (hd : decode cc pc = .ok (.getfield idx, 3)) (hn : pc + 3 = n) (kk : gAt G n L (.ref (gad G q) :: st) σ) : gAt G pc L (.ref (gad G c) :: st) σ := by
  subst hn; obtain ⟨⟨p, l, e, R, s, m, args, below, meth, c0⟩, X, nL0, v0, σ0⟩ := G
  obtain ⟨C, T, N, hcl, hk, hin, hlk⟩ := hF
  intro H locs ls hl hP hS
  have he := gw_get (X := X) (σ := σ) (isO_lt hO)
  rw [gE_O hO] at he
  exact va_get (D := X.1) ho.1 ho.2.1 ho.2.2.2.2.2.1 hin ho.2.2.2.2.1 ho.2.2.2.2.2.2.2.2.2.1 hP c he hcl k hk (ho.2.2.2.2.2.1 _ hlk) (fun _ h9 => h9) (gF_ref _ 0 k hf) hd (kk H locs ls hl hP hS)
theorem a_putI (ho : gOk G own cc d rt nL) {c ci idx k : Nat} {v : Int32} (hF : gFp own idx ci k) (hO : isO c ci) (hf : (ds c).2.2[k]? = some none) (hd : decode cc pc = .ok (.putfield idx, 3)) (hn : pc + 3 = n) (kk : gAt G n L st (sI σ c k v)) : gAt G pc L (.int v :: .ref (gad G c) :: st) σ := by
  subst hn; obtain ⟨⟨p, l, e, R, s, m, args, below, meth, c0⟩, X, nL0, v0, σ0⟩ := G
  obtain ⟨C, T, N, ty, hcl, hk, hin, hlk, hty, hnm, hfin, ht⟩ := hF
  intro H locs ls hl hP hS
  have he := gw_get (X := X) (σ := σ) (isO_lt hO)
  rw [gE_O hO] at he
  have hlen : k < (gF X.2.2.1 (σ.1 c) 0 (ds c).2.2).length := by rw [gF_len]; exact (List.getElem?_eq_some_iff.mp hf).1
  refine va_put (D := X.1) (ty := .int) ho.1 ho.2.1 ho.2.2.2.2.2.1 hin ty hty hnm ho.2.2.2.2.1 ho.2.2.2.2.2.2.2.2.2.1 hP (gD ho.2.2.2.2.2.2.2.2.2.2.1 σ) hS c he hcl k hk (ho.2.2.2.2.2.1 _ hlk) (fun _ h9 => h9) hfin (by rw [hty k hk, ht]) rfl rfl hlen hd (fun H1 locs1 hP1 _ hS1 => ?_)
  refine kk H1 locs1 ls hl ?_ hS1
  have e1 := gF_set (ad := X.2.2.1) (m := σ.1 c) (v := v) _ 0 k hf
  rw [Nat.zero_add] at e1
  rw [e1, ← gE_O (X := X) (m := upd (σ.1 c) k v) (g := σ.2 c) hO, gw_s1 (isO_lt hO)] at hP1
  exact hP1
theorem a_iald (ho : gOk G own cc d rt nL) {c N : Nat} {i : Int32} (hI : isI c N) (hr : inR i N) (hd : decode cc pc = .ok (.iaload, 1)) (hn : pc + 1 = n) (kk : gAt G n L (.int (σ.1 c i.toNatClampNeg) :: st) σ) : gAt G pc L (.int i :: .ref (gad G c) :: st) σ := by
  subst hn; obtain ⟨⟨p, l, e, R, s, m, args, below, meth, c0⟩, X, nL0, v0, σ0⟩ := G
  intro H locs ls hl hP hS
  have he := gw_get (X := X) (σ := σ) (isI_lt hI)
  rw [gE_I hI] at he
  exact va_iald (D := X.1) ho.1 ho.2.1 ho.2.2.2.2.2.2.2.2.2.1 hP c 0 he rfl hr hd (kk H locs ls hl hP hS)
theorem a_zald (ho : gOk G own cc d rt nL) {c N : Nat} {i : Int32} (hI : isZ c N) (hr : inR i N) (hd : decode cc pc = .ok (.baload, 1)) (hn : pc + 1 = n) (kk : gAt G n L (.int (σ.1 c i.toNatClampNeg) :: st) σ) : gAt G pc L (.int i :: .ref (gad G c) :: st) σ := by
  subst hn; obtain ⟨⟨p, l, e, R, s, m, args, below, meth, c0⟩, X, nL0, v0, σ0⟩ := G
  intro H locs ls hl hP hS
  have he := gw_get (X := X) (σ := σ) (isZ_lt hI)
  rw [gE_Z hI] at he
  exact va_zald (D := X.1) ho.1 ho.2.1 ho.2.2.2.2.2.2.2.2.2.1 hP c 2 he rfl hr hd (kk H locs ls hl hP hS)
theorem a_lald (ho : gOk G own cc d rt nL) {c N : Nat} {i : Int32} (hI : isJ c N) (hr : inR i N) (hd : decode cc pc = .ok (.laload, 1)) (hn : pc + 1 = n) (kk : gAt G n L (.long (σ.2 c i.toNatClampNeg) :: st) σ) : gAt G pc L (.int i :: .ref (gad G c) :: st) σ := by
  subst hn; obtain ⟨⟨p, l, e, R, s, m, args, below, meth, c0⟩, X, nL0, v0, σ0⟩ := G
  intro H locs ls hl hP hS
  have he := gw_get (X := X) (σ := σ) (isJ_lt hI)
  rw [gE_J hI] at he
  exact va_lald (D := X.1) ho.1 ho.2.1 ho.2.2.2.2.2.2.2.2.2.1 hP c 1 he rfl hr hd (kk H locs ls hl hP hS)
theorem a_iast (ho : gOk G own cc d rt nL) {c N : Nat} {i x : Int32} (hI : isI c N) (hr : inR i N) (hd : decode cc pc = .ok (.iastore, 1)) (hn : pc + 1 = n) (kk : gAt G n L st (sI σ c i.toNatClampNeg x)) : gAt G pc L (.int x :: .int i :: .ref (gad G c) :: st) σ := by
  subst hn; obtain ⟨⟨p, l, e, R, s, m, args, below, meth, c0⟩, X, nL0, v0, σ0⟩ := G
  intro H locs ls hl hP hS
  have he := gw_get (X := X) (σ := σ) (isI_lt hI)
  rw [gE_I hI] at he
  refine va_iast (D := X.1) ho.1 ho.2.1 ho.2.2.2.2.2.2.2.2.2.1 hP (gD ho.2.2.2.2.2.2.2.2.2.2.1 σ) hS c 0 he rfl hr hd (fun H1 locs1 hP1 _ hS1 => kk H1 locs1 ls hl ?_ hS1)
  rw [← gE_I (X := X) (m := upd (σ.1 c) i.toNatClampNeg x) (g := σ.2 c) hI, gw_s1 (isI_lt hI)] at hP1
  exact hP1
theorem a_zast (ho : gOk G own cc d rt nL) {c N : Nat} {i x : Int32} (hI : isZ c N) (hr : inR i N) (hd : decode cc pc = .ok (.bastore, 1)) (hn : pc + 1 = n) (kk : gAt G n L st (sI σ c i.toNatClampNeg (vp_nar .boolean x))) : gAt G pc L (.int x :: .int i :: .ref (gad G c) :: st) σ := by
  subst hn; obtain ⟨⟨p, l, e, R, s, m, args, below, meth, c0⟩, X, nL0, v0, σ0⟩ := G
  intro H locs ls hl hP hS
  have he := gw_get (X := X) (σ := σ) (isZ_lt hI)
  rw [gE_Z hI] at he
  refine va_zast (D := X.1) ho.1 ho.2.1 ho.2.2.2.2.2.2.2.2.2.1 hP (gD ho.2.2.2.2.2.2.2.2.2.2.1 σ) hS c 2 he rfl hr hd (fun H1 locs1 hP1 _ hS1 => kk H1 locs1 ls hl ?_ hS1)
  rw [← gE_Z (X := X) (m := upd (σ.1 c) i.toNatClampNeg (vp_nar .boolean x)) (g := σ.2 c) hI, gw_s1 (isZ_lt hI)] at hP1
  exact hP1
theorem a_last (ho : gOk G own cc d rt nL) {c N : Nat} {i : Int32} {x : Int64} (hI : isJ c N) (hr : inR i N) (hd : decode cc pc = .ok (.lastore, 1)) (hn : pc + 1 = n) (kk : gAt G n L st (sJ σ c i.toNatClampNeg x)) : gAt G pc L (.long x :: .int i :: .ref (gad G c) :: st) σ := by
  subst hn; obtain ⟨⟨p, l, e, R, s, m, args, below, meth, c0⟩, X, nL0, v0, σ0⟩ := G
  intro H locs ls hl hP hS
  have he := gw_get (X := X) (σ := σ) (isJ_lt hI)
  rw [gE_J hI] at he
  refine va_last (D := X.1) ho.1 ho.2.1 ho.2.2.2.2.2.2.2.2.2.1 hP (gD ho.2.2.2.2.2.2.2.2.2.2.1 σ) hS c 1 he rfl hr hd (fun H1 locs1 hP1 _ hS1 => kk H1 locs1 ls hl ?_ hS1)
  rw [← gE_J (X := X) (m := σ.1 c) (g := vp_updL (σ.2 c) i.toNatClampNeg x) hI, gw_s2 (isJ_lt hI)] at hP1
  exact hP1
theorem a_alen (ho : gOk G own cc d rt nL) {c N : Nat} {v : Int32} (hI : isI c N) (hv : Int32.ofNat N = v) (hd : decode cc pc = .ok (.arraylength, 1)) (hn : pc + 1 = n) (kk : gAt G n L (.int v :: st) σ) : gAt G pc L (.ref (gad G c) :: st) σ := by
  subst hn; obtain ⟨⟨p, l, e, R, s, m, args, below, meth, c0⟩, X, nL0, v0, σ0⟩ := G
  intro H locs ls hl hP hS
  have he := gw_get (X := X) (σ := σ) (isI_lt hI)
  rw [gE_I hI] at he
  exact va_alen (D := X.1) ho.1 ho.2.1 ho.2.2.2.2.2.2.2.2.2.1 hP c 0 he rfl hv hd (kk H locs ls hl hP hS)
theorem a_alenJ (ho : gOk G own cc d rt nL) {c N : Nat} {v : Int32} (hI : isJ c N) (hv : Int32.ofNat N = v) (hd : decode cc pc = .ok (.arraylength, 1)) (hn : pc + 1 = n) (kk : gAt G n L (.int v :: st) σ) : gAt G pc L (.ref (gad G c) :: st) σ := by
  subst hn; obtain ⟨⟨p, l, e, R, s, m, args, below, meth, c0⟩, X, nL0, v0, σ0⟩ := G
  intro H locs ls hl hP hS
  have he := gw_get (X := X) (σ := σ) (isJ_lt hI)
  rw [gE_J hI] at he
  exact va_alen (D := X.1) ho.1 ho.2.1 ho.2.2.2.2.2.2.2.2.2.1 hP c 1 he rfl hv hd (kk H locs ls hl hP hS)
abbrev isR (c t N : Nat) : Prop := (ds c).1 = t ∧ (ds c).2.1 = N
theorem gR_at {ad : Nat → Nat} {l : List (Option Nat)} {j q : Nat} (h : l[j]? = some (some q)) : va_rf (gR ad l j) = .ref (ad q) := by
  unfold gR; rw [List.getD_eq_getElem?_getD, h]; rfl
theorem a_aald (ho : gOk G own cc d rt nL) {c t N q : Nat} {i : Int32} (ht : t = 3 ∨ t = 4 ∨ t = 5) (hI : isR c t N) (hr : inR i N) (hq : (ds c).2.2[i.toNatClampNeg]? = some (some q)) (hd : decode cc pc = .ok (.aaload, 1)) (hn : pc + 1 = n) (kk : gAt G n L (.ref (gad G q) :: st) σ) : gAt G pc L (.int i :: .ref (gad G c) :: st) σ := by
  subst hn; obtain ⟨⟨p, l, e, R, s, m, args, below, meth, c0⟩, X, nL0, v0, σ0⟩ := G
  intro H locs ls hl hP hS
  have hlt : i.toNatClampNeg < N := Nat.not_le.mp fun q => hr (Or.inr q)
  have hc : c < NC := ds_lt (by rw [hI.1]; rcases ht with h | h | h <;> rw [h] <;> decide)
  have hK := ho.2.2.2.2.2.2.2.2.2.1
  have key : ∀ (cA : ClassId) (ty : FieldType) (k : Nat), ty.isReference = true → (gTy X)[k]? = some (cA, ty) → gE X c (σ.1 c) (σ.2 c) = .inl (cA, N, .inr (.inr (.inr (.inr (gR X.2.2.1 (ds c).2.2))))) → W p l e R s m args below meth c0 H locs 0 0 (MQ below (gQ X v0 σ0) args s 0 0 (gA X)) (F0 m pc ls (.int i :: .ref (X.2.2.1 c) :: st)) := by
    intro cA ty k href hk hE
    have he := gw_get (X := X) (σ := σ) hc
    rw [hE] at he
    exact W.aald (v := .ref (X.2.2.1 q)) (ty := ty) ho.1 ho.2.1 (hP c _ he) ((hK.2 k _ hk).1 N (fun j => va_rf (gR X.2.2.1 (ds c).2.2 j))) href (fun q => by cases q) (by show ¬ (i < 0 ∨ (arrV _ _ _).slots.size ≤ _); rw [arrV_size]; exact hr) (by show (arrV _ _ _).slots[_]? = _; rw [arrV_read _ _ hlt, gR_at hq]) rfl rfl hd (kk H locs ls hl hP hS)
  rcases ht with h | h | h
  · exact key (X.2.1 3) (.object "WaxCloth$Cloth") 3 rfl rfl (by unfold gE; rw [hI.1, hI.2, h]; rfl)
  · exact key (X.2.1 4) (.object "WaxCloth$Sheet") 4 rfl rfl (by unfold gE; rw [hI.1, hI.2, h]; rfl)
  · exact key (X.2.1 5) (.array .int) 5 rfl rfl (by unfold gE; rw [hI.1, hI.2, h]; rfl)
/-- the bounds of System.arraycopy -/
abbrev cpR (sp dp n : Int32) (n0 n1 : Nat) : Prop := ¬ sp < 0 ∧ ¬ dp < 0 ∧ ¬ n < 0 ∧ sp.toNatClampNeg + n.toNatClampNeg ≤ n0 ∧ dp.toNatClampNeg + n.toNatClampNeg ≤ n1
def gCp (own : String) (idx : Nat) : Prop := Cond.methodLink own idx arraycopyName ∈ WS ∧ Cond.native arraycopyName ∈ WS ∧ Cond.static arraycopyName ∈ WS ∧ Cond.initialized "java/lang/System" ∈ WS
theorem a_cpyI (ho : gOk G own cc d rt nL) {c c1 N N1 idx : Nat} {sp dp k : Int32} (hw : gCp own idx) (hd1 : 1 ≤ d) (hI : isI c N) (hI1 : isI c1 N1) (hr : cpR sp dp k N N1) (hst : (st.map fun v => v.category).sum ≤ 8) (hd : decode cc pc = .ok (.invokestatic idx, 3)) (hn : pc + 3 = n) (kk : gAt G n L st (cI σ c sp c1 dp k)) : gAt G pc L (.int k :: .int dp :: .ref (gad G c1) :: .int sp :: .ref (gad G c) :: st) σ := by
  subst hn; obtain ⟨⟨p, l, e, R, s, m, args, below, meth, c0⟩, X, nL0, v0, σ0⟩ := G
  intro H locs ls hl hP hS
  have he := gw_get (X := X) (σ := σ) (isI_lt hI)
  rw [gE_I hI] at he
  have he1 := gw_get (X := X) (σ := σ) (isI_lt hI1)
  rw [gE_I hI1] at he1
  have hR : R = rmd d := ho.2.2.2.2.2.2.2.2.1
  refine va_copyi (D := X.1) (ty := .int) ho.1 ho.2.1 (by rw [ho.2.2.1, ← ho.2.2.2.1]; exact hl.1.symm) ho.2.2.2.2.1 (ho.2.2.2.2.2.1 _ hw.1) (ho.2.2.2.2.2.1 _ hw.2.1) (ho.2.2.2.2.2.1 _ hw.2.2.1) (ho.2.2.2.2.2.1 _ hw.2.2.2) ho.2.2.2.2.2.2.2.2.2.1 hP (gD ho.2.2.2.2.2.2.2.2.2.2.1 σ) hS c c1 0 0 he he1 rfl rfl rfl hr.1 hr.2.1 hr.2.2.1 hr.2.2.2.1 hr.2.2.2.2 (fun _ _ => rfl) (by rw [hR]; exact hd1) ?_ hd (fun H1 locs1 hP1 _ hS1 => kk H1 locs1 ls hl ?_ hS1)
  · rw [hR]
    have h1 : nativeFrameWords "java/lang/System" "arraycopy" 5 + 11 ≤ 50 := by decide
    show _ ≤ 64 * d
    omega
  · rw [← gE_I (X := X) (m := va_cpy (σ.1 c) (σ.1 c1) sp.toNatClampNeg dp.toNatClampNeg k.toNatClampNeg) (g := σ.2 c1) hI1, gw_s1 (isI_lt hI1)] at hP1
    exact hP1
theorem a_cpyJ (ho : gOk G own cc d rt nL) {c c1 N N1 idx : Nat} {sp dp k : Int32} (hw : gCp own idx) (hd1 : 1 ≤ d) (hI : isJ c N) (hI1 : isJ c1 N1) (hr : cpR sp dp k N N1) (hst : (st.map fun v => v.category).sum ≤ 8) (hd : decode cc pc = .ok (.invokestatic idx, 3)) (hn : pc + 3 = n) (kk : gAt G n L st (cJ σ c sp c1 dp k)) : gAt G pc L (.int k :: .int dp :: .ref (gad G c1) :: .int sp :: .ref (gad G c) :: st) σ := by
  subst hn; obtain ⟨⟨p, l, e, R, s, m, args, below, meth, c0⟩, X, nL0, v0, σ0⟩ := G
  intro H locs ls hl hP hS
  have he := gw_get (X := X) (σ := σ) (isJ_lt hI)
  rw [gE_J hI] at he
  have he1 := gw_get (X := X) (σ := σ) (isJ_lt hI1)
  rw [gE_J hI1] at he1
  have hR : R = rmd d := ho.2.2.2.2.2.2.2.2.1
  refine va_copyl (D := X.1) (ty := .long) ho.1 ho.2.1 (by rw [ho.2.2.1, ← ho.2.2.2.1]; exact hl.1.symm) ho.2.2.2.2.1 (ho.2.2.2.2.2.1 _ hw.1) (ho.2.2.2.2.2.1 _ hw.2.1) (ho.2.2.2.2.2.1 _ hw.2.2.1) (ho.2.2.2.2.2.1 _ hw.2.2.2) ho.2.2.2.2.2.2.2.2.2.1 hP (gD ho.2.2.2.2.2.2.2.2.2.2.1 σ) hS c c1 1 1 he he1 rfl rfl rfl hr.1 hr.2.1 hr.2.2.1 hr.2.2.2.1 hr.2.2.2.2 (fun _ _ => rfl) (by rw [hR]; exact hd1) ?_ hd (fun H1 locs1 hP1 _ hS1 => kk H1 locs1 ls hl ?_ hS1)
  · rw [hR]
    have h1 : nativeFrameWords "java/lang/System" "arraycopy" 5 + 11 ≤ 50 := by decide
    show _ ≤ 64 * d
    omega
  · rw [← gE_J (X := X) (m := σ.1 c1) (g := va_cpy (σ.2 c) (σ.2 c1) sp.toNatClampNeg dp.toNatClampNeg k.toNatClampNeg) hI1, gw_s2 (isJ_lt hI1)] at hP1
    exact hP1
theorem a_tabG (ho : gOk G own cc d rt nL) {idx : Nat} (hlk : Cond.fieldLink own idx "WaxCloth$Kind" "ABOVE" "[I" ∈ WS) (hd : decode cc pc = .ok (.getstatic idx, 3)) (hn : pc + 3 = n) (kk : gAt G n L (.ref G.2.1.2.2.2 :: st) σ) : gAt G pc L st σ := by
  subst hn; obtain ⟨⟨p, l, e, R, s, m, args, below, meth, c0⟩, X, nL0, v0, σ0⟩ := G
  intro H locs ls hl hP hS
  exact va_gets ho.1 ho.2.1 ho.2.2.2.2.2.2.2.2.2.2.2.1 hS ho.2.2.2.2.1 (ho.2.2.2.2.2.1 _ hlk) (fun _ h9 => h9) hd (kk H locs ls hl hP hS)
theorem a_tabL (ho : gOk G own cc d rt nL) (hd : decode cc pc = .ok (.arraylength, 1)) (hn : pc + 1 = n) (kk : gAt G n L (.int 6 :: st) σ) : gAt G pc L (.ref G.2.1.2.2.2 :: st) σ := by
  subst hn; obtain ⟨⟨p, l, e, R, s, m, args, below, meth, c0⟩, X, nL0, v0, σ0⟩ := G
  intro H locs ls hl hP hS
  exact va_tlen ho.1 ho.2.1 ho.2.2.2.2.2.2.2.2.2.2.2.2 hS rfl hd (kk H locs ls hl hP hS)
theorem a_tabA (ho : gOk G own cc d rt nL) {i : Int32} (hr : inR i 6) (hd : decode cc pc = .ok (.iaload, 1)) (hn : pc + 1 = n) (kk : gAt G n L (.int (abv i.toNatClampNeg) :: st) σ) : gAt G pc L (.int i :: .ref G.2.1.2.2.2 :: st) σ := by
  subst hn; obtain ⟨⟨p, l, e, R, s, m, args, below, meth, c0⟩, X, nL0, v0, σ0⟩ := G
  intro H locs ls hl hP hS
  exact va_ti ho.1 ho.2.1 ho.2.2.2.2.2.2.2.2.2.2.2.2 hS hr rfl hd (kk H locs ls hl hP hS)
end MEM
section MAXMIN
variable {G : gM} {own : String} {cc : ByteArray} {d : Nat} {rt : Option FieldType} {nL : Nat} {pc n : Nat} {L L' : List (Nat × Value)} {st : List Value} {σ : gS}
def gMx (own : String) (idx : Nat) : Prop := Cond.methodLink own idx Lib.Math.max.name ∈ WS ∧ Cond.static Lib.Math.max.name ∈ WS ∧ Cond.initialized "java/lang/Math" ∈ WS ∧ Cond.code Lib.Math.max.name Lib.Math.max.code 2 (some .int) ∈ WS
def gMn (own : String) (idx : Nat) : Prop := Cond.methodLink own idx Lib.Math.min.name ∈ WS ∧ Cond.static Lib.Math.min.name ∈ WS ∧ Cond.initialized "java/lang/Math" ∈ WS ∧ Cond.code Lib.Math.min.name Lib.Math.min.code 2 (some .int) ∈ WS
def mx (x y : Int32) : Int32 := if x < y then y else x
def mn (x y : Int32) : Int32 := if y < x then y else x
theorem a_max (ho : gOk G own cc d rt nL) {x y : Int32} {idx : Nat} (hw : gMx own idx) (hd1 : 1 ≤ d) (hst : (st.map fun v => v.category).sum ≤ 8) (hd : decode cc pc = .ok (.invokestatic idx, 3)) (hn : pc + 3 = n) (kk : gAt G n L (.int (mx x y) :: st) σ) : gAt G pc L (.int y :: .int x :: st) σ := by
  subst hn; obtain ⟨⟨p, l, e, R, s, m, args, below, meth, c0⟩, X, nL0, v0, σ0⟩ := G
  intro H locs ls hl hP hS
  have hR : R = rmd d := ho.2.2.2.2.2.2.2.2.1
  exact va_mmax ho.1 ho.2.1 (by rw [ho.2.2.1, ← ho.2.2.2.1]; exact hl.1.symm) ho.2.2.2.2.1 (ho.2.2.2.2.2.1 _ hw.1) (ho.2.2.2.2.2.1 _ hw.2.1) (ho.2.2.2.2.2.1 _ hw.2.2.1) (ho.2.2.2.2.2.1 _ hw.2.2.2) (by rw [hR]; exact hd1) (by rw [hR]; show _ ≤ 64 * d; omega) (Nat.zero_le _) (Nat.zero_le _) hd (kk H locs ls hl hP hS)
theorem a_min (ho : gOk G own cc d rt nL) {x y : Int32} {idx : Nat} (hw : gMn own idx) (hd1 : 1 ≤ d) (hst : (st.map fun v => v.category).sum ≤ 8) (hd : decode cc pc = .ok (.invokestatic idx, 3)) (hn : pc + 3 = n) (kk : gAt G n L (.int (mn x y) :: st) σ) : gAt G pc L (.int y :: .int x :: st) σ := by
  subst hn; obtain ⟨⟨p, l, e, R, s, m, args, below, meth, c0⟩, X, nL0, v0, σ0⟩ := G
  intro H locs ls hl hP hS
  have hR : R = rmd d := ho.2.2.2.2.2.2.2.2.1
  exact va_mmin ho.1 ho.2.1 (by rw [ho.2.2.1, ← ho.2.2.2.1]; exact hl.1.symm) ho.2.2.2.2.1 (ho.2.2.2.2.2.1 _ hw.1) (ho.2.2.2.2.2.1 _ hw.2.1) (ho.2.2.2.2.2.1 _ hw.2.2.1) (ho.2.2.2.2.2.1 _ hw.2.2.2) (by rw [hR]; exact hd1) (by rw [hR]; show _ ≤ 64 * d; omega) (Nat.zero_le _) (Nat.zero_le _) hd (kk H locs ls hl hP hS)
end MAXMIN
section RET
variable {G : gM} {own : String} {cc : ByteArray} {d : Nat} {rt : Option FieldType} {nL : Nat} {pc n : Nat} {L L' : List (Nat × Value)} {st : List Value} {σ : gS}
theorem g_end {X : gX} {σ : gS} {s t : State} {H : Heap} {locs : List Loc} {v : Option Value} (hP : va_P X.1 vwCl (gw X σ) H) (hS : va_S (gA X) s.heap H locs) (hK : va_K X.1 vwCl (gTy X) s) (hj : gDj X) (hz : gZ X s s.heap) (ht : t.heap = H) (hW : s.WarmedH t.vm) {a : Array Value} : gQ X v σ a s (.returned v) t := by
  refine ⟨⟨rfl, by rw [ht]; exact hP, va_K.moved hW.alike hK, hj, ?_⟩, hS.F ht⟩
  rw [ht]
  exact ⟨(va_Z.moved hW.alike hz.1).kept hS.2.1, (va_T.moved hW.alike hz.2).kept hS.2.1⟩
theorem a_iret (ho : gOk G own cc d (some .int) nL) {r : Int32} (hd : decode cc pc = .ok (.ireturn, 1)) (hv : gv0 G = some (.int r)) (hs : gs0 G = σ) : gAt G pc L [.int r] σ := by
  obtain ⟨⟨p, l, e, R, s, m, args, below, meth, c0⟩, X, nL0, v0, σ0⟩ := G
  intro H locs ls hl hP hS
  have hv : v0 = _ := hv
  have hs : σ0 = _ := hs
  subst hv; subst hs
  exact W.iret ho.1 ho.2.1 ho.2.2.2.2.2.2.2.1 (fun t ht hW => g_end hP hS ho.2.2.2.2.2.2.2.2.2.1 ho.2.2.2.2.2.2.2.2.2.2.1 ho.2.2.2.2.2.2.2.2.2.2.2 ht hW) hS.2.2 hd ho.2.2.2.2.2.2.1
theorem a_zret (ho : gOk G own cc d (some .boolean) nL) {r : Int32} (hd : decode cc pc = .ok (.ireturn, 1)) (hb : narrow .boolean (.int r) = .int r) (hv : gv0 G = some (.int r)) (hs : gs0 G = σ) : gAt G pc L [.int r] σ := by
  obtain ⟨⟨p, l, e, R, s, m, args, below, meth, c0⟩, X, nL0, v0, σ0⟩ := G
  intro H locs ls hl hP hS
  have hv : v0 = _ := hv
  have hs : σ0 = _ := hs
  subst hv; subst hs
  exact W.zret ho.1 ho.2.1 ho.2.2.2.2.2.2.2.1 hb (fun t ht hW => g_end hP hS ho.2.2.2.2.2.2.2.2.2.1 ho.2.2.2.2.2.2.2.2.2.2.1 ho.2.2.2.2.2.2.2.2.2.2.2 ht hW) hS.2.2 hd ho.2.2.2.2.2.2.1
theorem a_lret (ho : gOk G own cc d (some .long) nL) {r : Int64} (hd : decode cc pc = .ok (.lreturn, 1)) (hv : gv0 G = some (.long r)) (hs : gs0 G = σ) : gAt G pc L [.long r] σ := by
  obtain ⟨⟨p, l, e, R, s, m, args, below, meth, c0⟩, X, nL0, v0, σ0⟩ := G
  intro H locs ls hl hP hS
  have hv : v0 = _ := hv
  have hs : σ0 = _ := hs
  subst hv; subst hs
  exact W.lret ho.1 ho.2.1 ho.2.2.2.2.2.2.2.1 (fun t ht hW => g_end hP hS ho.2.2.2.2.2.2.2.2.2.1 ho.2.2.2.2.2.2.2.2.2.2.1 ho.2.2.2.2.2.2.2.2.2.2.2 ht hW) hS.2.2 hd ho.2.2.2.2.2.2.1
theorem a_vret (ho : gOk G own cc d none nL) (hd : decode cc pc = .ok (.return_, 1)) (hv : gv0 G = none) (hs : gs0 G = σ) : gAt G pc L [] σ := by
  obtain ⟨⟨p, l, e, R, s, m, args, below, meth, c0⟩, X, nL0, v0, σ0⟩ := G
  intro H locs ls hl hP hS
  have hv : v0 = _ := hv
  have hs : σ0 = _ := hs
  subst hv; subst hs
  exact W.vret ho.1 ho.2.1 ho.2.2.2.2.2.2.2.1 (fun t ht hW => g_end hP hS ho.2.2.2.2.2.2.2.2.2.1 ho.2.2.2.2.2.2.2.2.2.2.1 ho.2.2.2.2.2.2.2.2.2.2.2 ht hW) hS.2.2 hd ho.2.2.2.2.2.2.1
end RET
section CALLS
variable {G : gM} {own : String} {cc : ByteArray} {d : Nat} {rt : Option FieldType} {nL : Nat} {pc n : Nat} {L L' : List (Nat × Value)} {st : List Value} {σ σ' : gS}
theorem gBlind {X : gX} {σ : gS} {as : List Value} : FrameBlind (va_Pc as (gH X σ)) := fun _ U _ _ q => ⟨q.1, q.2.1, va_K.moved (u := U) (Vm.Alike.refl U.vm) q.2.2.1, q.2.2.2.1, va_Z.moved (u := U) (Vm.Alike.refl U.vm) q.2.2.2.2.1, va_T.moved (u := U) (Vm.Alike.refl U.vm) q.2.2.2.2.2⟩
theorem gIn {X : gX} {σ : gS} {s : State} {H : Heap} {locs : List Loc} {as : List Value} (hP : va_P X.1 vwCl (gw X σ) H) (hS : va_S (gA X) s.heap H locs) (hK : va_K X.1 vwCl (gTy X) s) (hj : gDj X) (hz : gZ X s s.heap) : ∀ U : State, U.heap = H → s.WarmedH U.vm → va_Pc as (gH X σ) as.toArray U := fun U hU hW =>
  ⟨rfl, by rw [hU]; exact hP, va_K.moved hW.alike hK, hj, by rw [hU]; exact (va_Z.moved hW.alike hz.1).kept hS.2.1, by rw [hU]; exact (va_T.moved hW.alike hz.2).kept hS.2.1⟩
/-- what the tables say of an instance method -/
def gV (y : MethodName) (bytes : ByteArray) (maxL : Nat) (ret : Option FieldType) (na ci : Nat) : Prop := (∃ (T : u_T) (N : Nat), vwCl[ci]? = some (y.cls, T, N)) ∧ Cond.code y bytes maxL ret ∈ WS ∧ Cond.instanceMethod y ∈ WS ∧ Cond.selects y.cls y y ∈ WS ∧ Cond.initialized y.cls ∈ WS ∧ (y.cls ≠ "java/lang/invoke/MethodHandle" ∧ y.cls ≠ "java/lang/invoke/VarHandle" ∧ (parseMethodDescriptor y.desc).map (fun d => d.parameters.length) = some na) ∧ maxL ≤ 45
def gT (y : MethodName) (bytes : ByteArray) (maxL : Nat) (ret : Option FieldType) (na : Nat) : Prop := Cond.code y bytes maxL ret ∈ WS ∧ Cond.static y ∈ WS ∧ Cond.initialized y.cls ∈ WS ∧ (y.cls ≠ "java/lang/invoke/MethodHandle" ∧ y.cls ≠ "java/lang/invoke/VarHandle" ∧ (parseMethodDescriptor y.desc).map (fun d => d.parameters.length) = some na) ∧ maxL ≤ 45
theorem g_after {p : Program} {l : Launch} {e : Env} {R : Room} {s : State} {m : MethodId} {args : Array Value} {below : List Frame} {meth : Method} {c0 : Code} {X : gX} {H : Heap} {locs : List Loc} {ls : Array Slot} {st0 : List Value} {v : Option Value} {a : Array Value} {Q : State → Prop} (hr : va_Run p l e R s m args below meth c0 H locs 0 0 0 0 (F0 m pc ls st0) st (gQ X v σ' a) (gA X)) (hS : va_S (gA X) s.heap H locs)
    (kk : ∀ (H1 : Heap) (locs1 : List Loc), va_P X.1 vwCl (gw X σ') H1 → va_S (gA X) s.heap H1 locs1 → W p l e R s m args below meth c0 H1 locs1 0 0 Q (F0 m (pc + 3) ls (v.toList ++ st))) : W p l e R s m args below meth c0 H locs 0 0 Q (F0 m pc ls st0) := by
  intro T hT X1
  obtain ⟨v1, st₀, t, T', L1, h0, X', hL, e1, e2, ⟨⟨hv, hg⟩, hz, hk⟩, stp⟩ := hr T hT X1
  cases hv
  rw [h0] at hz hk
  obtain ⟨t2, a1, b1⟩ := kk T'.heap (locs ++ L1) (by rw [e1]; exact hg.1) ⟨Nat.le_trans hS.1 (by rw [e1]; exact hz), fun q h1 h2 => by rw [e1, hk q (Nat.lt_of_lt_of_le h1 hS.1) h2]; exact hS.2.1 q h1 h2, fun q hq => by
      rcases List.mem_append.mp hq with h | h
      · exact hS.2.2 q h
      · exact hL q h⟩ T' rfl X'
  exact ⟨t2, stp t2 a1, b1⟩
theorem a_callV (ho : gOk G own cc d rt nL) {y : MethodName} {bytes : ByteArray} {maxL na idx ci c d' : Nat} {ret : Option FieldType} {as : List Value} {v : Option Value} {st0 : List Value} (hy : gV y bytes maxL ret na ci) (hl : Cond.methodLink own idx y ∈ WS) (hO : isO c ci) (hM : gCt (gl G) (gXX G) y (.code y bytes maxL ret) d' (.ref (gad G c) :: as) σ v σ') (hna : as.length = na) (hs : st0 = as.reverse ++ .ref (gad G c) :: st) (hdd : d' + 1 ≤ d) (hst : (st.map fun v => v.category).sum ≤ 8) (hd : decode cc pc = .ok (.invokevirtual idx, 3)) (hn : pc + 3 = n) (kk : gAt G n L (v.toList ++ st) σ') : gAt G pc L st0 σ := by
  subst hn; obtain ⟨⟨p, l, e, R, s, m, args, below, meth, c0⟩, X, nL0, v0, σ0⟩ := G
  obtain ⟨⟨T, N, hcl⟩, hcode, hins, hsel, hini, hdsc, hmx⟩ := hy
  have hR : R = rmd d := ho.2.2.2.2.2.2.2.2.1
  have hts := ho.2.2.2.2.2.1
  intro H locs ls hl0 hP hS
  have he := gw_get (X := X) (σ := σ) (isO_lt hO)
  rw [gE_O hO] at he
  have hrun := va_runV (g := F0 m pc ls st0) (rest := st) (As := as) (cells := 0) (slots := 0) (locs := locs) (e := e) (below := below) (meth := meth) (nL := nL) ⟨ho.1, ho.2.1, ho.2.2.1, ho.2.2.2.2.1, hts⟩ hM (C := y.cls) (index := idx) (n := na) (R := R) (b := X.2.2.1 c) (H := H) ⟨callB_of na hts (WS_cons hcode) rfl rfl rfl (hts _ hini) (hts _ hl) hdsc ⟨by rw [hR]; exact hdd, by rw [hR]; show 8 + (maxL + 11) + 64 * d' ≤ 64 * d; omega⟩, hts _ hins, hts _ hsel⟩ ⟨gBlind, va_recv ho.2.2.2.2.2.2.2.2.2.1 hP hcl he, gIn hP hS ho.2.2.2.2.2.2.2.2.2.1 ho.2.2.2.2.2.2.2.2.2.2.1 ho.2.2.2.2.2.2.2.2.2.2.2⟩ rfl hna (by show ls.size = nL; rw [← ho.2.2.2.1]; exact hl0.1) hs (lv_room hst) hd ⟨Nat.zero_le _, Nat.zero_le _⟩
  exact g_after hrun hS (fun H1 locs1 hP1 hS1 => kk H1 locs1 ls hl0 hP1 hS1)
theorem a_callS (ho : gOk G own cc d rt nL) {y : MethodName} {bytes : ByteArray} {maxL na idx d' : Nat} {ret : Option FieldType} {as : List Value} {v : Option Value} {st0 : List Value} (hy : gT y bytes maxL ret na) (hl : Cond.methodLink own idx y ∈ WS) (hM : gCt (gl G) (gXX G) y (.code y bytes maxL ret) d' as σ v σ') (hna : as.length = na) (hs : st0 = as.reverse ++ st) (hdd : d' + 1 ≤ d) (hst : (st.map fun v => v.category).sum ≤ 8) (hd : decode cc pc = .ok (.invokestatic idx, 3)) (hn : pc + 3 = n) (kk : gAt G n L (v.toList ++ st) σ') : gAt G pc L st0 σ := by
  subst hn; obtain ⟨⟨p, l, e, R, s, m, args, below, meth, c0⟩, X, nL0, v0, σ0⟩ := G
  obtain ⟨hcode, hsta, hini, hdsc, hmx⟩ := hy
  have hR : R = rmd d := ho.2.2.2.2.2.2.2.2.1
  have hts := ho.2.2.2.2.2.1
  intro H locs ls hl0 hP hS
  have hrun := va_runS (g := F0 m pc ls st0) (rest := st) (As := as) (cells := 0) (slots := 0) (locs := locs) (e := e) (below := below) (meth := meth) (nL := nL) ⟨ho.1, ho.2.1, ho.2.2.1, ho.2.2.2.2.1, hts⟩ hM (index := idx) (n := na) (R := R) (H := H) ⟨callB_of na hts (WS_cons hcode) rfl rfl rfl (hts _ hini) (hts _ hl) hdsc ⟨by rw [hR]; exact hdd, by rw [hR]; show 8 + (maxL + 11) + 64 * d' ≤ 64 * d; omega⟩, hts _ hsta⟩ ⟨gBlind, gIn hP hS ho.2.2.2.2.2.2.2.2.2.1 ho.2.2.2.2.2.2.2.2.2.2.1 ho.2.2.2.2.2.2.2.2.2.2.2⟩ rfl hna (by show ls.size = nL; rw [← ho.2.2.2.1]; exact hl0.1) hs (lv_room hst) hd ⟨Nat.zero_le _, Nat.zero_le _⟩
  exact g_after hrun hS (fun H1 locs1 hP1 hS1 => kk H1 locs1 ls hl0 hP1 hS1)
/-- a contract out of a walk -/
theorem gCt_of {l : Launch} {X : gX} {y : MethodName} {d : Nat} {as : List Value} {v : Option Value} {maxL : Nat} {ret : Option FieldType} (cc : ByteArray) (hy : plainName y.cls = true) (hlen : (lg_sl as).length ≤ maxL)
    (body : ∀ G : gM, gl G = l → gXX G = X → gv0 G = v → gs0 G = σ' → gOk G y.cls cc d ret maxL → gAt G 0 (lv_args 0 as) [] σ) : gCt l X y (.code y cc maxL ret) d as σ v σ' := by
  refine Met.ofW (cc := cc) (maxL := maxL) (ret := ret) hy rfl ?_
  intro p e s m args below meth c s₁ B hml hv
  obtain ⟨rfl, hP, hK, hj, hz⟩ := hv
  have hts := atoms_spec (ws := Cond.code y cc maxL ret :: WS) B.pre
  have hown : s.vm.findClass y.cls = some m.cls := findClass_of_methodNamed B.named
  have hb := body ((p, l, e, rmd d, s, m, as.toArray, below, meth, c), X, maxL, v, σ') rfl rfl rfl rfl ⟨B.exec, B.bytes, hml, rfl, hown, fun w hw => hts w (List.mem_cons_of_mem _ hw), B.notSynchronized, B.returns, rfl, hK, hj, hz⟩
  rw [lg_entry_eq]
  exact hb s.heap [] _ (lv_entry as hlen) hP va_S.rf
end CALLS
def ck {α : Type} (P : Prop) [Decidable P] (x : Option α) : Option α := if P then x else none
theorem ck_el {α : Type} {P : Prop} [Decidable P] {x : Option α} {r : α} (h : ck P x = some r) : P ∧ x = some r := by
  unfold ck at h
  by_cases hP : P
  · rw [if_pos hP] at h; exact ⟨hP, h⟩
  · rw [if_neg hP] at h; cases h
def ob {α β : Type} (x : Option α) (f : α → Option β) : Option β := match x with | none => none | some a => f a
theorem ob_el {α β : Type} {x : Option α} {f : α → Option β} {r : β} (h : ob x f = some r) : ∃ a, x = some a ∧ f a = some r := by
  cases x with
  | none => cases h
  | some a => exact ⟨a, rfl, h⟩
def ob2 {α γ β : Type} (x : Option (α × γ)) (f : α → γ → Option β) : Option β := match x with | none => none | some a => f a.1 a.2
theorem ob2_el {α γ β : Type} {x : Option (α × γ)} {f : α → γ → Option β} {r : β} (h : ob2 x f = some r) : ∃ a b, x = some (a, b) ∧ f a b = some r := by
  cases x with
  | none => cases h
  | some a => exact ⟨a.1, a.2, rfl, h⟩
def bd {α β : Type} (x : α) (f : α → β) : β := f x
theorem bd_el {α β : Type} {x : α} {f : α → β} {r : β} (h : bd x f = r) : ∃ a, x = a ∧ f a = r := ⟨x, rfl, h⟩
theorem if_t {α : Type} {c : Prop} [Decidable c] {a b r : α} (hc : c) (h : (if c then a else b) = r) : a = r := by rw [if_pos hc] at h; exact h
theorem if_f {α : Type} {c : Prop} [Decidable c] {a b r : α} (hc : ¬ c) (h : (if c then a else b) = r) : b = r := by rw [if_neg hc] at h; exact h
theorem re_el {α β : Type} {a a0 : α} {b b0 : β} (h : some (a, b) = some (a0, b0)) : a = a0 ∧ b = b0 := by cases h; exact ⟨rfl, rfl⟩
theorem ro_el {α : Type} {a a0 : α} (h : some a = some a0) : a = a0 := by cases h; rfl
theorem tI {x k : Int32} {z : Int} (h : ¬ x = k) (hk : k.toInt = z) : x.toInt ≠ z := fun q => h (Int32.toInt_inj.mp (by rw [q, hk]))
theorem rng_lt {i : Int32} {N : Nat} (h : inR i N) : i.toNatClampNeg < N := Nat.not_le.mp fun q => h (Or.inr q)
theorem a_nmI {G : gM} {pc : Nat} {L : List (Nat × Value)} {st : List Value} {σ : gS} {e x : Int32} (hx : e = x) (k : gAt G pc L (.int x :: st) σ) : gAt G pc L (.int e :: st) σ := hx ▸ k
theorem a_nmL {G : gM} {pc : Nat} {L : List (Nat × Value)} {st : List Value} {σ : gS} {e x : Int64} (hx : e = x) (k : gAt G pc L (.long x :: st) σ) : gAt G pc L (.long e :: st) σ := hx ▸ k
theorem a_nmS {G : gM} {pc : Nat} {L : List (Nat × Value)} {st : List Value} {σ τ : gS} (hx : σ = τ) (k : gAt G pc L st τ) : gAt G pc L st σ := hx ▸ k
abbrev nb (v : Int32) : Prop := v = 0 ∨ v = 1
theorem nb_n {v : Int32} (h : nb v) : narrow .boolean (.int v) = .int v := by
  rcases h with h | h <;> rw [h] <;> rfl
def fu : Nat := 20000
