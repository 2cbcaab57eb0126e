/-! PURE G: kinds -/
def cS (m acc k : Nat) (b : Bool) : Nat := if m.testBit k && b then acc + 2 ^ k else acc
def mS (m k : Nat) (b : Bool) : Nat := if b then m else if m.testBit k then m - 2 ^ k else m
def cR (m : Nat) (b1 b2 b3 b4 b5 : Bool) : Nat := cS m (cS m (cS m (cS m (cS m 0 1 b1) 2 b2) 3 b3) 4 b4) 5 b5
def mR (m : Nat) (b1 b2 b3 b4 b5 : Bool) : Nat := mS (mS (mS (mS (mS m 1 b1) 2 b2) 3 b3) 4 b4) 5 b5
theorem cR_mR : ∀ m, m < 64 → m % 2 = 0 → ∀ b1 b2 b3 b4 b5 : Bool, cR m b1 b2 b3 b4 b5 = mR m b1 b2 b3 b4 b5 ∧ cR m b1 b2 b3 b4 b5 < 64 ∧ cR m b1 b2 b3 b4 b5 % 2 = 0 := by decide +kernel
theorem cS_lt {m acc k : Nat} {b : Bool} (h : acc < 2 ^ k) : cS m acc k b < 2 ^ (k + 1) := by
  unfold cS; rw [Nat.pow_succ]; split <;> omega
theorem tkB (k b h : Nat) (t : Int64) : (lg_cmp (Int32.toInt64 (nI (tkN k b h))) t = 0) ↔ (nI (tkN k b h)).toInt64 = t := lg_cmp_eq _ _
def tB (b h : Nat) (t : Int64) (k : Nat) : Bool := decide ((nI (tkN k b h)).toInt64 = t)
theorem ttI {m h b : Nat} (hm : m < 64) (hh : h ≤ 9) (hb : b ≤ 3) (t : Int64) : F_X3_thatTake_0 (nI m) (nI h) (nI b) t = some (nI (cR m (tB b h t 1) (tB b h t 2) (tB b h t 3) (tB b h t 4) (tB b h t 5))) := by
  have st : ∀ (n k acc : Nat), 1 ≤ k → k ≤ 5 → acc < 2 ^ k → F_X3_thatTake_6 (n + 1) (nI m) (nI h) (nI b) t (nI acc) (nI k) = F_X3_thatTake_6 n (nI m) (nI h) (nI b) t (nI (cS m acc k (tB b h t k))) (nI (k + 1)) := by
    intro n k acc k1 k5 ha
    rw [F_X3_thatTake_6, if_neg (by rw [L5]; exact nI_nlt k5 (by decide)), bitI (by omega) (by omega), takenI k5 hb hh, ob_s, shl1 k (by omega), nI_or]
    have e := or_add (b := 1) ha
    rw [Nat.one_mul] at e
    rw [e]
    simp only [F_X3_thatTake_43, bd_e]
    rw [show nI k + 1 = nI (k + 1) from nI_1 k]
    unfold cS
    by_cases c1 : m.testBit k = true
    · rw [if_pos c1, if_neg (by decide)]
      by_cases c2 : (nI (tkN k b h)).toInt64 = t
      · rw [if_pos ((tkB _ _ _ _).mpr c2), c1, show tB b h t k = true from decide_eq_true c2]; rfl
      · rw [if_neg (fun q => c2 ((tkB _ _ _ _).mp q)), c1, show tB b h t k = false from decide_eq_false c2]; rfl
    · rw [if_neg c1, if_pos (by decide), show m.testBit k = false by simpa using c1]; rfl
  have l1 : (0 : Nat) < 2 ^ 1 := by decide
  have l2 := cS_lt (m := m) (b := tB b h t 1) l1
  have l3 := cS_lt (m := m) (b := tB b h t 2) l2
  have l4 := cS_lt (m := m) (b := tB b h t 3) l3
  have l5 := cS_lt (m := m) (b := tB b h t 4) l4
  unfold F_X3_thatTake_0
  rw [fu_s 6]
  show F_X3_thatTake_6 (19994 + 6) (nI m) (nI h) (nI b) t (nI 0) (nI 1) = _
  rw [st _ 1 0 (by decide) (by decide) l1, st _ 2 _ (by decide) (by decide) l2, st _ 3 _ (by decide) (by decide) l3, st _ 4 _ (by decide) (by decide) l4, st _ 5 _ (by decide) (by decide) l5, F_X3_thatTake_6, if_pos (by decide)]
  rfl
theorem andM : ∀ m, m < 64 → ∀ k, k < 6 → nI m &&& (((1 : Int32) <<< (nI k &&& (31 : Int32))) ^^^ (-1)) = nI (if m.testBit k then m - 2 ^ k else m) := by decide +kernel
theorem nI_and_self (a : Nat) : nI a &&& nI a = nI a := by
  apply Int32.toBitVec_inj.mp
  show (nI a).toBitVec &&& (nI a).toBitVec = _
  rw [BitVec.and_self]
theorem mS_lt {m k : Nat} {b : Bool} (h : m < 64) : mS m k b < 64 := by
  unfold mS; split
  · exact h
  · have := Nat.sub_le m (2 ^ k)
    split <;> omega
theorem bestT : ∀ m, m < 32 → 0 < m → ∀ h, h < 10 → F_X3_bestTry_0 (nI (2 * m)) (nI h) = F_X12_tryOf_0 (nI (2 * m)) (nI h) ∧ (F_X12_tryOf_0 (nI (2 * m)) (nI h)).isSome = true := by decide +kernel
theorem try0 : ∀ h, h < 10 → F_X12_tryOf_0 (nI 0) (nI h) = some (-4) := by decide +kernel
/-- the triples of a sheet, and the set of kinds that they leave -/
abbrev okT (g : Nat → Int64) (k : Nat) : Prop := (0 ≤ (g (3 * k)).toInt ∧ (g (3 * k)).toInt ≤ 9) ∧ (0 ≤ (g (3 * k + 1)).toInt ∧ (g (3 * k + 1)).toInt ≤ 3)
def kdS (g : Nat → Int64) : Nat → Nat
  | 0 => 62
  | k + 1 => cR (kdS g k) (tB (dgN g (3 * k + 1)) (dgN g (3 * k)) (g (3 * k + 2)) 1) (tB (dgN g (3 * k + 1)) (dgN g (3 * k)) (g (3 * k + 2)) 2) (tB (dgN g (3 * k + 1)) (dgN g (3 * k)) (g (3 * k + 2)) 3) (tB (dgN g (3 * k + 1)) (dgN g (3 * k)) (g (3 * k + 2)) 4) (tB (dgN g (3 * k + 1)) (dgN g (3 * k)) (g (3 * k + 2)) 5)
theorem kdS_ok (g : Nat → Int64) : ∀ k, kdS g k < 64 ∧ kdS g k % 2 = 0
  | 0 => ⟨(by decide : 62 < 64), (by decide : 62 % 2 = 0)⟩
  | k + 1 => by
    have h := kdS_ok g k
    exact (cR_mR _ h.1 h.2 _ _ _ _ _).2
theorem okT_d {g : Nat → Int64} {k : Nat} (h : okT g k) : (g (3 * k)).toInt32 = nI (dgN g (3 * k)) ∧ dgN g (3 * k) ≤ 9 ∧ (g (3 * k + 1)).toInt32 = nI (dgN g (3 * k + 1)) ∧ dgN g (3 * k + 1) ≤ 3 := by
  obtain ⟨⟨a1, a2⟩, b1, b2⟩ := h
  unfold dgN
  exact ⟨t32 (by omega) (by omega), by omega, t32 (by omega) (by omega), by omega⟩
theorem trI {σ : gS} {c i n : Nat} {g : Nat → Int64} (hi : i + 3 * n ≤ 24) (hg : ∀ j, j < 3 * n → σ.2 (c + 1) (i + j) = g j) : F_X11_areTriples_0 c (nI i) (nI n) σ = some (bI (decide (∀ k, k < n → okT g k))) := by
  have key : ∀ (m k f : Nat), k + m = n → m < f → (∀ j, j < k → okT g j) → F_X11_areTriples_2 c f (nI i) (nI n) (nI k) σ = some (bI (decide (∀ k, k < n → okT g k))) := by
    intro m
    induction m with
    | zero =>
      intro k f hk hf hall
      obtain ⟨f, rfl⟩ : ∃ z, f = z + 1 := ⟨f - 1, by omega⟩
      have hkn : k = n := by omega
      subst hkn
      rw [F_X11_areTriples_2, if_pos (nI_le (by omega) (by omega))]
      exact congrArg some (bI_t hall)
    | succ m ih =>
      intro k f hk hf hall
      obtain ⟨f, rfl⟩ : ∃ z, f = z + 1 := ⟨f - 1, by omega⟩
      rw [F_X11_areTriples_2, if_neg (nI_ge (by omega) (by omega)), L3, pk_mul, nI_add, show nI (i + k * 3) + 1 = nI (i + k * 3 + 1) from nI_1 _]
      simp only [bd_e]
      rw [ck_t (inR_t (by omega) (by decide)), ck_t (inR_t (by omega) (by decide)), TN_nI (by omega), TN_nI (by omega), show i + k * 3 = i + 3 * k by omega, hg _ (by omega), Nat.add_assoc, hg _ (by omega), show nI k + 1 = nI (k + 1) from nI_1 k]
      simp only [lgLT, lgGT]
      have e3 : ∀ (a : Int64), (lg_cmp a 3 ≤ 0) = (a.toInt ≤ 3) := fun a => lgLE a 3
      simp only [e3]
      by_cases hok : okT g k
      · rw [if_neg (by show ¬ _ < (0 : Int); omega), if_neg (by show ¬ (9 : Int) < _; omega), if_neg (by show ¬ _ < (0 : Int); omega), if_pos (by omega)]
        exact ih (k + 1) f (by omega) (by omega) (fun j hj => by
          by_cases h : j = k
          · rw [h]; exact hok
          · exact hall j (by omega))
      · have hno : some (0 : Int32) = some (bI (decide (∀ k, k < n → okT g k))) := congrArg some (bI_f (fun h => hok (h k (by omega))))
        by_cases q1 : (g (3 * k)).toInt < (0 : Int64).toInt
        · rw [if_pos q1]; exact hno
        · rw [if_neg q1]
          by_cases q2 : (9 : Int64).toInt < (g (3 * k)).toInt
          · rw [if_pos q2]; exact hno
          · rw [if_neg q2]
            by_cases q3 : (g (3 * k + 1)).toInt < (0 : Int64).toInt
            · rw [if_pos q3]; exact hno
            · rw [if_neg q3, if_neg (fun q4 => hok ?_)]
              · exact hno
              · have r1 : (0 : Int64).toInt = 0 := rfl
                have r9 : (9 : Int64).toInt = 9 := rfl
                rw [r1] at q1 q3
                rw [r9] at q2
                omega
  have := key n 0 fu (by omega) (by unfold fu; omega) (fun j hj => absurd hj (by omega))
  exact this
theorem kbI {σ : gS} {c i n : Nat} {g : Nat → Int64} (hi : i + 3 * n ≤ 24) (hg : ∀ j, j < 3 * n → σ.2 (c + 1) (i + j) = g j) (hall : ∀ k, k < n → okT g k) : F_X11_kindsByTriples_0 c (nI i) (nI n) σ = some (nI (kdS g n)) := by
  have key : ∀ (m k f : Nat), k + m = n → m < f → F_X11_kindsByTriples_6 c f (nI i) (nI n) (nI (kdS g k)) (nI k) σ = some (nI (kdS g n)) := by
    intro m
    induction m with
    | zero =>
      intro k f hk hf
      obtain ⟨f, rfl⟩ : ∃ z, f = z + 1 := ⟨f - 1, by omega⟩
      rw [F_X11_kindsByTriples_6, if_pos (nI_le (by omega) (by omega)), show k = n by omega]
    | succ m ih =>
      intro k f hk hf
      obtain ⟨f, rfl⟩ : ∃ z, f = z + 1 := ⟨f - 1, by omega⟩
      obtain ⟨d1, d2, d3, d4⟩ := okT_d (hall k (by omega))
      rw [F_X11_kindsByTriples_6, if_neg (nI_ge (by omega) (by omega)), L3, pk_mul, nI_add, bd_e, show i + k * 3 = i + 3 * k by omega, show nI (i + 3 * k) + 1 = nI (i + 3 * k + 1) from nI_1 _, show nI (i + 3 * k) + 2 = nI (i + 3 * k + 2) from nI_add _ 2, ck_t (inR_t (by omega) (by decide)), ck_t (inR_t (by omega) (by decide)), ck_t (inR_t (by omega) (by decide)), TN_nI (by omega), TN_nI (by omega), TN_nI (by omega), hg _ (by omega), Nat.add_assoc, hg _ (by omega), Nat.add_assoc, hg _ (by omega), d1, d3, ttI (kdS_ok g k).1 d2 d4, ob_s, bd_e, show nI k + 1 = nI (k + 1) from nI_1 k]
      exact ih (k + 1) f (by omega) (by omega)
  exact key n 0 fu (by omega) (by unfold fu; omega)
theorem kn128 {σ : gS} {s i n k m : Nat} {g : Nat → Int64} {x5 : Int32} (G66 : Int32 → Int32 → Int32 → Int32 → Int32 → Int32 → gS → Option Int32) (hs : s < 4) (hi : i + 3 * n ≤ 24) (hk : k < n) (hg : ∀ j, j < 3 * n → σ.2 94 (24 * s + i + j) = g j) (hok : okT g k) (hm : m < 64) (hm2 : m % 2 = 0) :
    F_X12_kinds_128 G66 fu (nI s) (nI i) (nI n) x5 (nI m) (nI k) (nI (24 * s + i + 3 * k)) 1 σ = G66 (nI s) (nI i) (nI n) x5 (nI (cR m (tB (dgN g (3 * k + 1)) (dgN g (3 * k)) (g (3 * k + 2)) 1) (tB (dgN g (3 * k + 1)) (dgN g (3 * k)) (g (3 * k + 2)) 2) (tB (dgN g (3 * k + 1)) (dgN g (3 * k)) (g (3 * k + 2)) 3) (tB (dgN g (3 * k + 1)) (dgN g (3 * k)) (g (3 * k + 2)) 4) (tB (dgN g (3 * k + 1)) (dgN g (3 * k)) (g (3 * k + 2)) 5))) (nI (k + 1)) σ := by
  obtain ⟨d1, d2, d3, d4⟩ := okT_d hok
  have st : ∀ (f j a : Nat), 1 ≤ j → j ≤ 5 → a < 64 → F_X12_kinds_128 G66 (f + 1) (nI s) (nI i) (nI n) x5 (nI a) (nI k) (nI (24 * s + i + 3 * k)) (nI j) σ = F_X12_kinds_128 G66 f (nI s) (nI i) (nI n) x5 (nI (mS a j (tB (dgN g (3 * k + 1)) (dgN g (3 * k)) (g (3 * k + 2)) j))) (nI k) (nI (24 * s + i + 3 * k)) (nI (j + 1)) σ := by
    intro f j a j1 j5 ha
    rw [F_X12_kinds_128, if_neg (by rw [L6]; exact nI_ge (by omega) (by decide)), show nI (24 * s + i + 3 * k) + 1 = nI (24 * s + i + 3 * k + 1) from nI_1 _, show nI (24 * s + i + 3 * k) + 2 = nI (24 * s + i + 3 * k + 2) from nI_add _ 2, ck_t (inR_t (by omega) (by decide)), ck_t (inR_t (by omega) (by decide)), TN_nI (by omega), TN_nI (by omega), hg _ (by omega), show 24 * s + i + 3 * k + 1 = 24 * s + i + (3 * k + 1) by omega, hg _ (by omega), d1, d3, takenM j5 d4 d2, ob_s, ck_t (inR_t (by omega) (by decide)), TN_nI (by omega), show 24 * s + i + 3 * k + 2 = 24 * s + i + (3 * k + 2) by omega, hg _ (by omega)]
    simp only [F_X12_kinds_185, bd_e]
    rw [show nI j + 1 = nI (j + 1) from nI_1 j, andM a ha j (by omega)]
    unfold mS
    by_cases c2 : (nI (tkN j (dgN g (3 * k + 1)) (dgN g (3 * k)))).toInt64 = g (3 * k + 2)
    · rw [if_pos ((tkB _ _ _ _).mpr c2), show tB (dgN g (3 * k + 1)) (dgN g (3 * k)) (g (3 * k + 2)) j = true from decide_eq_true c2, if_pos rfl, nI_and_self]
    · rw [if_neg (fun q => c2 ((tkB _ _ _ _).mp q)), show tB (dgN g (3 * k + 1)) (dgN g (3 * k)) (g (3 * k + 2)) j = false from decide_eq_false c2, if_neg (show ¬ (false = true) by decide)]
  rw [(cR_mR m hm hm2 _ _ _ _ _).1]
  rw [fu_s 6]
  show F_X12_kinds_128 G66 (19994 + 6) (nI s) (nI i) (nI n) x5 (nI m) (nI k) (nI (24 * s + i + 3 * k)) (nI 1) σ = _
  have l1 := mS_lt (k := 1) (b := tB (dgN g (3 * k + 1)) (dgN g (3 * k)) (g (3 * k + 2)) 1) hm
  have l2 := mS_lt (k := 2) (b := tB (dgN g (3 * k + 1)) (dgN g (3 * k)) (g (3 * k + 2)) 2) l1
  have l3 := mS_lt (k := 3) (b := tB (dgN g (3 * k + 1)) (dgN g (3 * k)) (g (3 * k + 2)) 3) l2
  have l4 := mS_lt (k := 4) (b := tB (dgN g (3 * k + 1)) (dgN g (3 * k)) (g (3 * k + 2)) 4) l3
  rw [st _ 1 _ (by decide) (by decide) hm, st _ 2 _ (by decide) (by decide) l1, st _ 3 _ (by decide) (by decide) l2, st _ 4 _ (by decide) (by decide) l3, st _ 5 _ (by decide) (by decide) l4, F_X12_kinds_128, if_pos (by decide), bd_e, show nI k + 1 = nI (k + 1) from nI_1 k]
  rfl
theorem kn66 {σ : gS} {s i n : Nat} {g : Nat → Int64} {x5 : Int32} (hs : s < 4) (hi : i + 3 * n ≤ 24) (hg : ∀ j, j < 3 * n → σ.2 94 (24 * s + i + j) = g j) : ∀ (m k f : Nat), k + m = n → m < f →
    F_X12_kinds_66 f (nI s) (nI i) (nI n) x5 (nI (kdS g k)) (nI k) σ = if ∀ j, j < n → k ≤ j → okT g j then (if 0 ≤ x5 then (ob (F_X12_tryOf_0 (nI (kdS g n)) x5) (fun r214 => some r214)) else (some (nI (kdS g n)))) else some (-2) := by
  intro m
  induction m with
  | zero =>
    intro k f hk hf
    obtain ⟨f, rfl⟩ : ∃ z, f = z + 1 := ⟨f - 1, by omega⟩
    have hkn : k = n := by omega
    subst hkn
    rw [F_X12_kinds_66, if_pos (nI_le (by omega) (by omega)), if_pos (fun j h1 h2 => absurd h1 (by omega))]
  | succ m ih =>
    intro k f hk hf
    obtain ⟨f, rfl⟩ : ∃ z, f = z + 1 := ⟨f - 1, by omega⟩
    rw [F_X12_kinds_66, if_neg (nI_ge (by omega) (by omega)), L24, pk_mul, nI_add, L3, pk_mul, nI_add, bd_e, show nI (24 * s + i + 3 * k) + 1 = nI (24 * s + i + 3 * k + 1) from nI_1 _, ck_t (inR_t (by omega) (by decide)), ck_t (inR_t (by omega) (by decide)), TN_nI (by omega), TN_nI (by omega), hg _ (by omega), show 24 * s + i + 3 * k + 1 = 24 * s + i + (3 * k + 1) by omega, hg _ (by omega), inM, if_bP, inM, if_bP]
    by_cases hok : okT g k
    · rw [if_pos (show (0 : Int64).toInt ≤ (g (3 * k)).toInt ∧ (g (3 * k)).toInt ≤ (9 : Int64).toInt from hok.1), if_pos (show (0 : Int64).toInt ≤ (g (3 * k + 1)).toInt ∧ (g (3 * k + 1)).toInt ≤ (3 : Int64).toInt from hok.2), kn128 _ hs hi (by omega) hg hok (kdS_ok g k).1 (kdS_ok g k).2]
      have h := ih (k + 1) f (by omega) (by omega)
      refine h.trans ?_
      by_cases hall : ∀ j, j < n → k ≤ j → okT g j
      · rw [if_pos hall, if_pos (fun j h1 h2 => hall j h1 (by omega))]
      · rw [if_neg hall, if_neg (fun h => hall (fun j h1 h2 => by
          by_cases hj : j = k
          · rw [hj]; exact hok
          · exact h j h1 (by omega)))]
    · have hno : ¬ ∀ j, j < n → k ≤ j → okT g j := fun h => hok (h k (by omega) (Nat.le_refl _))
      rw [if_neg hno]
      by_cases q1 : 0 ≤ (g (3 * k)).toInt ∧ (g (3 * k)).toInt ≤ 9
      · rw [if_pos (show (0 : Int64).toInt ≤ (g (3 * k)).toInt ∧ (g (3 * k)).toInt ≤ (9 : Int64).toInt from q1), if_neg (show ¬ ((0 : Int64).toInt ≤ (g (3 * k + 1)).toInt ∧ (g (3 * k + 1)).toInt ≤ (3 : Int64).toInt) from (fun q2 => hok ⟨q1, q2⟩))]
      · rw [if_neg (show ¬ ((0 : Int64).toInt ≤ (g (3 * k)).toInt ∧ (g (3 * k)).toInt ≤ (9 : Int64).toInt) from q1)]
theorem step_kinds {σ : gS} (hI : Inv σ) (x1 x2 x3 x4 x5 : Int32) : ∃ r, F_X11_kinds_0 x1 x2 x3 x4 x5 σ = some r ∧ F_X12_kinds_0 x1 x2 x3 x4 x5 σ = some r := by
  obtain ⟨-, -, -, -, hS4⟩ := id hI
  by_cases hv : ((0 ≤ x1.toInt ∧ x1.toInt < (4 : Nat)) ∧ (0 ≤ x2.toInt ∧ x2.toInt < (4 : Nat))) ∧ (1 ≤ x4.toInt ∧ x4.toInt ≤ 7) ∧ (-1 ≤ x5.toInt ∧ x5.toInt ≤ 9)
  · obtain ⟨⟨v1, v2⟩, v4, v5⟩ := hv
    obtain ⟨s, hs, rfl⟩ := of_rng v1 (by decide)
    obtain ⟨n, hn, rfl⟩ := of_rng (x := x4) (n := 8) (by omega) (by decide)
    obtain ⟨o, o1, o2, o3⟩ := ISs_o.mp (hS4 s hs)
    rw [nI_toInt (by omega)] at v4
    have h3n : 0 ≤ (nI (3 * n)).toInt := by rw [nI_toInt (by omega)]; omega
    have cl : F_X11_kinds_0 (nI s) x2 x3 (nI n) x5 σ = if rfz o x2 x3 (nI (3 * n)) = 0 then (ob (F_X11_areTriples_0 (56 + 2 * s) x3 (nI n) σ) (fun r78 => if r78 = 0 then (some (-2)) else (ob (F_X11_kindsByTriples_0 (56 + 2 * s) x3 (nI n) σ) (fun r96 => if x5 = (-1) then (some r96) else (if r96 = 0 then (some (-4)) else (ob (F_X3_bestTry_0 r96 x5) (fun r124 => some r124))))))) else some (rfz o x2 x3 (nI (3 * n))) := by
      unfold F_X11_kinds_0
      have hr : inR (nI s) 4 := inR_t hs (by decide)
      simp only [ck_t hr]
      rw [ishI, if_bP, if_pos v1, ilnI, if_bP, if_pos v2, if_neg (fun q => by rw [L1, nI_ltI (by omega) (by decide)] at q; omega), if_pos (by rw [L7]; exact nI_le (by omega) (by decide)), if_neg (fun q => by rw [Int32.lt_iff_toInt_lt, show (-1 : Int32).toInt = -1 from rfl] at q; omega), if_pos (by rw [L9, le_lit (by decide)]; omega), TN_nI (by omega), L3, pk_mul, Nat.mul_comm n 3, refI o1, bd_e]
    have md : F_X12_kinds_0 (nI s) x2 x3 (nI n) x5 σ = if 0 ≤ rfz o x2 x3 (nI (3 * n)) then F_X12_kinds_66 fu (nI s) x3 (nI n) x5 62 0 σ else some (rfz o x2 x3 (nI (3 * n))) := by
      unfold F_X12_kinds_0
      rw [ishM, if_bP, if_pos ⟨v1, v2⟩, inL _ 1 7 (p := 1) (q := 7) rfl rfl, if_bP, if_pos (by rw [nI_toInt (by omega)]; exact v4), inL _ (-1) 9 (p := -1) (q := 9) rfl rfl, if_bP, if_pos v5, L3, pk_mul, foundM hs o2 _ _ _ h3n, ob_s]
    by_cases hf : rfz o x2 x3 (nI (3 * n)) = 0
    · rw [if_pos hf] at cl
      rw [hf, if_pos (by decide)] at md
      obtain ⟨l, N, rfl, rfl, h3, h4, h5⟩ := rfz_0 hf
      have a4 := o1.2.2.2
      simp only at a4
      rw [nI_toInt (show 3 * n < 2 ^ 31 by omega)] at h5
      obtain ⟨i, hi, rfl⟩ := of_rng (x := x3) (n := 25) (by omega) (by decide)
      rw [nI_toInt (show i < 2 ^ 31 by omega)] at h5
      let g : Nat → Int64 := fun j => σ.2 94 (24 * s + i + j)
      have hgC : ∀ j, j < 3 * n → σ.2 (56 + 2 * s + 1) (i + j) = g j := fun j hj => by
        rw [o3 (by simp) _ (by omega)]
        show _ = σ.2 94 (24 * s + i + j)
        rw [Nat.add_assoc]
      rw [trI (g := g) (by omega) hgC, ob_s, if_bP] at cl
      have m1 := kn66 (σ := σ) (s := s) (i := i) (n := n) (x5 := x5) (g := g) hs (by omega) (fun j hj => rfl) n 0 fu (by omega) (by unfold fu; omega)
      have m2 := md.trans m1
      by_cases hall : ∀ k, k < n → okT g k
      · rw [if_pos hall, kbI (by omega) hgC hall, ob_s] at cl
        rw [if_pos (fun j h1 _ => hall j h1)] at m2
        by_cases h5m : x5 = -1
        · rw [if_pos h5m] at cl
          rw [if_neg (by rw [h5m]; decide)] at m2
          exact ⟨_, cl, m2⟩
        · rw [if_neg h5m] at cl
          have hx5 : 0 ≤ x5.toInt ∧ x5.toInt < (10 : Nat) := by
            refine ⟨?_, by omega⟩
            apply Int.not_lt.mp
            intro hlt
            apply h5m
            apply Int32.toInt_inj.mp
            rw [show (-1 : Int32).toInt = -1 from rfl]
            omega
          obtain ⟨u, hu, rfl⟩ := of_rng hx5 (by decide)
          rw [if_pos (by rw [L0]; exact nI_le (Nat.zero_le _) (by omega))] at m2
          obtain ⟨k1, k2⟩ := kdS_ok g n
          by_cases hz : kdS g n = 0
          · rw [hz, if_pos (by decide)] at cl
            rw [hz, try0 u hu, ob_s] at m2
            exact ⟨_, cl, m2⟩
          · rw [if_neg (nI_ne0 (by omega) (by omega))] at cl
            obtain ⟨b1, b2⟩ := bestT (kdS g n / 2) (by omega) (by omega) u hu
            rw [show 2 * (kdS g n / 2) = kdS g n by omega] at b1 b2
            obtain ⟨r, hr⟩ := Option.isSome_iff_exists.mp b2
            rw [b1, hr, ob_s] at cl
            rw [hr, ob_s] at m2
            exact ⟨_, cl, m2⟩
      · rw [if_neg hall] at cl
        rw [if_neg (fun h => hall (fun k hk => h k hk (Nat.zero_le _)))] at m2
        exact ⟨_, cl, m2⟩
    · rw [if_neg hf] at cl
      rw [if_neg (rfz_n hf)] at md
      exact ⟨_, cl, md⟩
  · refine ⟨-1, ?_, ?_⟩
    · unfold F_X11_kinds_0
      rw [ishI, if_bP, ilnI, if_bP]
      by_cases a1 : 0 ≤ x1.toInt ∧ x1.toInt < (4 : Nat)
      · rw [if_pos a1]
        by_cases a2 : 0 ≤ x2.toInt ∧ x2.toInt < (4 : Nat)
        · rw [if_pos a2]
          by_cases a3 : x4 < 1
          · rw [if_pos a3]
          · rw [if_neg a3]
            by_cases a4 : x4 ≤ 7
            · rw [if_pos a4]
              by_cases a5 : x5 < -1
              · rw [if_pos a5]
              · rw [if_neg a5, if_neg (fun a6 => hv ?_)]
                rw [Int32.lt_iff_toInt_lt] at a3 a5
                rw [Int32.le_iff_toInt_le] at a4 a6
                rw [show (1 : Int32).toInt = 1 from rfl] at a3
                rw [show (7 : Int32).toInt = 7 from rfl] at a4
                rw [show (-1 : Int32).toInt = -1 from rfl] at a5
                rw [show (9 : Int32).toInt = 9 from rfl] at a6
                omega
            · rw [if_neg a4]
        · rw [if_neg a2]
      · rw [if_neg a1]
    · unfold F_X12_kinds_0
      rw [ishM, if_bP, inL _ 1 7 (p := 1) (q := 7) rfl rfl, if_bP, inL _ (-1) 9 (p := -1) (q := 9) rfl rfl, if_bP]
      by_cases b1 : (0 ≤ x1.toInt ∧ x1.toInt < (4 : Nat)) ∧ (0 ≤ x2.toInt ∧ x2.toInt < (4 : Nat))
      · rw [if_pos b1]
        by_cases b2 : 1 ≤ x4.toInt ∧ x4.toInt ≤ 7
        · rw [if_pos b2, if_neg (fun b3 => hv ⟨b1, b2, b3⟩)]
        · rw [if_neg b2]
      · rw [if_neg b1]
