/-! PURE B: sheets -/
theorem ishI (x : Int32) : F_X11_isSheet_0 x = bI (decide (0 ≤ x.toInt ∧ x.toInt < (4 : Nat))) := hasI (n := 4) rfl (by decide)
theorem ilnI (x : Int32) : F_X8_isLane_0 x = bI (decide (0 ≤ x.toInt ∧ x.toInt < (4 : Nat))) := by
  unfold F_X8_isLane_0
  have e : (3 < x) ↔ (3 : Int) < x.toInt := by rw [Int32.lt_iff_toInt_lt]; exact Iff.rfl
  by_cases h1 : x < 0
  · rw [if_pos h1]; rw [lt0] at h1; exact bI_f (by omega)
  · rw [if_neg h1]; rw [lt0] at h1
    by_cases h2 : 3 < x
    · rw [if_pos h2]; rw [e] at h2; exact bI_f (by omega)
    · rw [if_neg h2]; rw [e] at h2; exact bI_t (by omega)
theorem ishM (x y : Int32) : F_X12_isSheet_0 x y = bI (decide ((0 ≤ x.toInt ∧ x.toInt < (4 : Nat)) ∧ (0 ≤ y.toInt ∧ y.toInt < (4 : Nat)))) := by
  unfold F_X12_isSheet_0
  rw [inL x 0 3 (p := 0) (q := 3) rfl rfl, inL y 0 3 (p := 0) (q := 3) rfl rfl, if_bP, if_bP]
  split
  · split
    · exact bI_t (by omega)
    · exact bI_f (by omega)
  · exact bI_f (by omega)
def rfz (o : Option (Nat × Nat)) (x2 x3 x4 : Int32) : Int32 := match o with
  | none => -11
  | some p => if nI p.1 = x2 then (if 0 ≤ x3.toInt ∧ 0 ≤ x4.toInt ∧ x3.toInt + x4.toInt ≤ (p.2 : Int) then 0 else -13) else -12
def shC (σ : gS) (s : Nat) (o : Option (Nat × Nat)) : Prop := match o with
  | none => σ.1 (56 + 2 * s) 0 = -1
  | some p => σ.1 (56 + 2 * s) 0 = nI p.1 ∧ σ.1 (56 + 2 * s) 1 = nI p.2 ∧ p.1 < 4 ∧ p.2 ≤ 24
def shM (σ : gS) (s : Nat) (o : Option (Nat × Nat)) : Prop := match o with
  | none => σ.1 92 s = -1
  | some p => σ.1 92 s = nI p.2 ∧ σ.1 93 s = nI p.1 ∧ p.1 < 4 ∧ p.2 ≤ 24
def shE (σ : gS) (s : Nat) (o : Option (Nat × Nat)) : Prop := o ≠ none → ∀ j, j < 24 → σ.2 (56 + 2 * s + 1) j = σ.2 94 (24 * s + j)
theorem ISs_o {σ : gS} {s : Nat} : ISs σ s ↔ ∃ o, shC σ s o ∧ shM σ s o ∧ shE σ s o := by
  constructor
  · rintro (⟨h1, h2⟩ | ⟨l, n, h1, h2, h3, h4, h5, h6, h7⟩)
    · exact ⟨none, h1, h2, fun h => absurd rfl h⟩
    · exact ⟨some (l, n), ⟨h3, h4, h1, h2⟩, ⟨h5, h6, h1, h2⟩, fun _ => h7⟩
  · rintro ⟨o, h1, h2, h3⟩
    cases o with
    | none => exact Or.inl ⟨h1, h2⟩
    | some p => exact Or.inr ⟨p.1, p.2, h1.2.2.1, h1.2.2.2, h1.1, h1.2.1, h2.1, h2.2.1, h3 (by simp)⟩
theorem nI_nm1 {l : Nat} (h : l < 2 ^ 31) : ¬ nI l = -1 := by
  intro e
  have := congrArg Int32.toInt e
  rw [nI_toInt h, show (-1 : Int32).toInt = -1 from rfl] at this
  omega
theorem nothI {σ : gS} {s : Nat} {o : Option (Nat × Nat)} (h : shC σ s o) : F_X8_isNothing_0 (56 + 2 * s) σ = bI (decide (o = none)) := by
  unfold F_X8_isNothing_0
  cases o with
  | none =>
    have h : σ.1 (56 + 2 * s) 0 = -1 := h
    rw [if_pos h]; rfl
  | some p => rw [h.1, if_neg (nI_nm1 (by have := h.2.2.1; omega))]; rfl
theorem holdsI {σ : gS} {c n : Nat} {x y : Int32} (h : σ.1 c 1 = nI n) (hn : n ≤ 24) : F_X8_holds_0 c x y σ = bI (decide (0 ≤ x.toInt ∧ 0 ≤ y.toInt ∧ x.toInt + y.toInt ≤ (n : Int))) := by
  unfold F_X8_holds_0
  rw [h]
  by_cases h1 : x < 0
  · rw [if_pos h1]; rw [lt0] at h1; exact bI_f (by omega)
  · rw [if_neg h1]; rw [lt0] at h1
    by_cases h2 : y < 0
    · rw [if_pos h2]; rw [lt0] at h2; exact bI_f (by omega)
    · rw [if_neg h2]; rw [lt0] at h2
      by_cases h3 : nI n < y
      · rw [if_pos h3]; rw [Int32.lt_iff_toInt_lt, nI_toInt (by omega)] at h3; exact bI_f (by omega)
      · rw [if_neg h3]; rw [Int32.lt_iff_toInt_lt, nI_toInt (by omega)] at h3
        obtain ⟨k, hk, rfl⟩ := of_rng (x := y) (n := n + 1) (by omega) (by omega)
        rw [pk_sub (by omega), nI_toInt (by omega)]
        by_cases h4 : nI (n - k) < x
        · rw [if_pos h4]; rw [Int32.lt_iff_toInt_lt, nI_toInt (by omega)] at h4; exact bI_f (by omega)
        · rw [if_neg h4]; rw [Int32.lt_iff_toInt_lt, nI_toInt (by omega)] at h4; exact bI_t (by omega)
theorem refI {σ : gS} {s : Nat} {o : Option (Nat × Nat)} (h : shC σ s o) (x2 x3 x4 : Int32) : F_X8_refusal_0 (56 + 2 * s) x2 x3 x4 σ = rfz o x2 x3 x4 := by
  unfold F_X8_refusal_0
  rw [nothI h, if_bP]
  cases o with
  | none => rw [if_pos rfl]; rfl
  | some p =>
    rw [if_neg (by simp), h.1, holdsI h.2.1 h.2.2.2, if_bP]
    rfl
theorem add64 (a b : Int32) : (a.toInt64 + b.toInt64).toInt = a.toInt + b.toInt := by
  have h1 := Int32.toInt_lt a
  have h2 := Int32.le_toInt a
  have h3 := Int32.toInt_lt b
  have h4 := Int32.le_toInt b
  rw [Int64.toInt_add, t64, t64]
  apply Int.bmod_eq_of_le <;> omega
theorem foundM {σ : gS} {s : Nat} {o : Option (Nat × Nat)} (hs : s < 4) (h : shM σ s o) (x2 x3 x4 : Int32) (h4 : 0 ≤ x4.toInt) : F_X12_found_0 (nI s) x2 x3 x4 σ = some (rfz o x2 x3 x4) := by
  unfold F_X12_found_0 F_X12_found_46
  have hr : inR (nI s) 4 := inR_t hs (by decide)
  simp only [ck_t hr]
  rw [TN_nI (by omega)]
  cases o with
  | none =>
    have h : σ.1 92 s = -1 := h
    rw [h, if_neg (by decide)]; rfl
  | some p =>
    obtain ⟨a1, a2, a3, a4⟩ := h
    rw [a1, if_pos (by rw [L0]; exact nI_le (Nat.zero_le _) (by omega)), a2]
    simp only [lgLE, add64, t64]
    rw [nI_toInt (by omega)]
    show _ = some (if _ then (if _ then _ else _) else _)
    by_cases c1 : nI p.1 = x2
    · rw [if_pos c1, if_pos c1]
      by_cases c2 : x3 < 0
      · rw [if_pos c2]; rw [lt0] at c2; rw [if_neg (by omega)]
      · rw [if_neg c2]; rw [lt0] at c2
        by_cases c3 : x3.toInt + x4.toInt ≤ (p.2 : Int)
        · rw [if_pos c3, if_pos (by omega)]
        · rw [if_neg c3, if_neg (by omega)]
    · rw [if_neg c1, if_neg c1]
theorem rfz_0 {o : Option (Nat × Nat)} {x2 x3 x4 : Int32} (h : rfz o x2 x3 x4 = 0) : ∃ l n, o = some (l, n) ∧ x2 = nI l ∧ 0 ≤ x3.toInt ∧ 0 ≤ x4.toInt ∧ x3.toInt + x4.toInt ≤ (n : Int) := by
  unfold rfz at h
  cases o with
  | none => exact absurd (show (-11 : Int32) = 0 from h) (by decide)
  | some p =>
    simp only at h
    by_cases c1 : nI p.1 = x2
    · rw [if_pos c1] at h
      by_cases c2 : 0 ≤ x3.toInt ∧ 0 ≤ x4.toInt ∧ x3.toInt + x4.toInt ≤ (p.2 : Int)
      · exact ⟨p.1, p.2, rfl, c1.symm, c2⟩
      · rw [if_neg c2] at h; exact absurd h (by decide)
    · rw [if_neg c1] at h; exact absurd h (by decide)
theorem rfz_n {o : Option (Nat × Nat)} {x2 x3 x4 : Int32} (h : ¬ rfz o x2 x3 x4 = 0) : ¬ 0 ≤ rfz o x2 x3 x4 := by
  unfold rfz at *
  cases o with
  | none => exact (by decide : ¬ (0 : Int32) ≤ -11)
  | some p =>
    simp only at *
    by_cases c1 : nI p.1 = x2
    · rw [if_pos c1] at *
      by_cases c2 : 0 ≤ x3.toInt ∧ 0 ≤ x4.toInt ∧ x3.toInt + x4.toInt ≤ (p.2 : Int)
      · rw [if_pos c2] at h; exact absurd rfl h
      · rw [if_neg c2]; decide
    · rw [if_neg c1]; decide
/-- what a change of one sheet leaves -/
theorem Inv.sheet {σ τ : gS} (h : Inv σ) (s : Nat) (a1 : ∀ c, c ≠ 56 + 2 * s → c ≠ 92 → c ≠ 93 → τ.1 c = σ.1 c) (a2 : ∀ c, c ≠ 56 + 2 * s + 1 → c ≠ 94 → τ.2 c = σ.2 c) (a3 : ∀ j, j ≠ s → τ.1 92 j = σ.1 92 j ∧ τ.1 93 j = σ.1 93 j) (a4 : ∀ j, j < 24 * s ∨ 24 * s + 24 ≤ j → τ.2 94 j = σ.2 94 j) (hs : s < 4) (hn : ISs τ s) : Inv τ := by
  obtain ⟨⟨K, w, q, m, hC, hP⟩, hk, hT, hR, hS⟩ := h
  refine ⟨⟨K, w, q, m, hC.keep (fun c hc => a1 c (by omega) (by omega) (by omega)) (by rw [a1 82 (by omega) (by omega) (by omega)]), hP.keep (fun c hc => a1 c (by omega) (by omega) (by omega)) (by rw [a1 82 (by omega) (by omega) (by omega)])⟩, fun k hk' => (hk k hk').keep hk' (fun c hc => a1 c (by omega) (by omega) (by omega)), hT.keep (by rw [a1 1 (by omega) (by omega) (by omega)]) (a1 2 (by omega) (by omega) (by omega)) (a1 91 (by omega) (by omega) (by omega)) (by rw [a1 82 (by omega) (by omega) (by omega)]), hR.keep (a1 7 (by omega) (by omega) (by omega)) (by rw [a1 4 (by omega) (by omega) (by omega)]), fun s' hs' => ?_⟩
  by_cases hss : s' = s
  · subst hss; exact hn
  · have h0 := hS s' hs'
    unfold ISs at *
    rw [a1 (56 + 2 * s') (by omega) (by omega) (by omega), (a3 s' hss).1, (a3 s' hss).2, a2 (56 + 2 * s' + 1) (by omega) (by omega)]
    rcases h0 with g | ⟨l, n, g1, g2, g3, g4, g5, g6, g7⟩
    · exact Or.inl g
    · exact Or.inr ⟨l, n, g1, g2, g3, g4, g5, g6, fun j hj => by rw [a4 _ (by omega)]; exact g7 j hj⟩
/-! sheet -/
def zrf (g : Nat → Int64) (a k : Nat) : Nat → Int64 := fun j => if a ≤ j ∧ j < a + k then 0 else g j
theorem zrf_0 (g : Nat → Int64) (a : Nat) : zrf g a 0 = g := by funext j; unfold zrf; rw [if_neg (by omega)]
theorem zrf_s (g : Nat → Int64) (a k : Nat) : vp_updL (zrf g a k) (a + k) 0 = zrf g a (k + 1) := by
  funext j
  unfold vp_updL zrf
  by_cases h : j = a + k
  · rw [if_pos h, if_pos (by omega)]
  · rw [if_neg h]
    by_cases h2 : a ≤ j ∧ j < a + k
    · rw [if_pos h2, if_pos (by omega)]
    · rw [if_neg h2, if_neg (by omega)]
theorem beginI {σ : gS} {c : Nat} (x1 x2 : Int32) : F_X8_begin_0 c x1 x2 σ = some (s2 (sI (sI σ c 0 x1) c 1 x2) (c + 1) (zrf (σ.2 (c + 1)) 0 24)) := by
  unfold F_X8_begin_0
  rw [bd_e, bd_e]
  have key : ∀ (m k f : Nat) (τ : gS), k + m = 24 → m < f → F_X8_begin_12 c f (nI k) (s2 τ (c + 1) (zrf (τ.2 (c + 1)) 0 k)) = some (s2 τ (c + 1) (zrf (τ.2 (c + 1)) 0 24)) := by
    intro m
    induction m with
    | zero =>
      intro k f τ hk hf
      obtain ⟨f, rfl⟩ : ∃ g, f = g + 1 := ⟨f - 1, by omega⟩
      rw [F_X8_begin_12, if_pos (by rw [L24]; exact nI_le (by omega) (by omega)), show k = 24 by omega]
    | succ m ih =>
      intro k f τ hk hf
      obtain ⟨f, rfl⟩ : ∃ g, f = g + 1 := ⟨f - 1, by omega⟩
      have e := zrf_s (τ.2 (c + 1)) 0 k
      rw [Nat.zero_add] at e
      rw [F_X8_begin_12, if_neg (by rw [L24]; exact nI_ge (by omega) (by decide)), ck_t (inR_t (by omega) (by decide)), TN_nI (by omega), sJ_s2', e, bd_e, bd_e, show nI k + 1 = nI (k + 1) from nI_1 k]
      exact ih (k + 1) f τ (by omega) (by omega)
  have := key 24 0 fu (sI (sI σ c 0 x1) c 1 x2) (by omega) (by unfold fu; omega)
  rw [zrf_0, s2_id] at this
  exact this
theorem sheet40 {σ : gS} {s : Nat} (hs : s < 4) (x3 : Int32) : F_X12_sheet_40 fu (nI s) x3 0 σ = some (x3, s2 σ 94 (zrf (σ.2 94) (24 * s) 24)) := by
  have key : ∀ (m k f : Nat), k + m = 24 → m < f → F_X12_sheet_40 f (nI s) x3 (nI k) (s2 σ 94 (zrf (σ.2 94) (24 * s) k)) = some (x3, s2 σ 94 (zrf (σ.2 94) (24 * s) 24)) := by
    intro m
    induction m with
    | zero =>
      intro k f hk hf
      obtain ⟨f, rfl⟩ : ∃ g, f = g + 1 := ⟨f - 1, by omega⟩
      rw [F_X12_sheet_40, if_pos (by rw [L24]; exact nI_le (by omega) (by omega)), show k = 24 by omega]
    | succ m ih =>
      intro k f hk hf
      obtain ⟨f, rfl⟩ : ∃ g, f = g + 1 := ⟨f - 1, by omega⟩
      rw [F_X12_sheet_40, if_neg (by rw [L24]; exact nI_ge (by omega) (by decide)), L24, pk_mul, nI_add, ck_t (inR_t (by omega) (by decide)), TN_nI (by omega), sJ_s2', zrf_s, bd_e, bd_e, show nI k + 1 = nI (k + 1) from nI_1 k]
      exact ih (k + 1) f (by omega) (by omega)
  have := key 24 0 fu (by omega) (by unfold fu; omega)
  rw [zrf_0, s2_id] at this
  exact this
theorem le_lit {x : Int32} {k : Nat} (hk : k < 2 ^ 31) : x ≤ nI k ↔ x.toInt ≤ k := by rw [Int32.le_iff_toInt_le, nI_toInt hk]
theorem step_sheet {σ : gS} (hI : Inv σ) (x y z : Int32) : ∃ r σ1 σ2, F_X11_sheet_0 x y z σ = some (r, σ1) ∧ F_X12_sheet_0 x y z σ1 = some (r, σ2) ∧ Inv σ2 := by
  unfold F_X11_sheet_0 F_X12_sheet_0
  rw [ishI, ilnI, ishM, if_bP, if_bP]
  by_cases hx : 0 ≤ x.toInt ∧ x.toInt < (4 : Nat)
  · rw [if_pos hx]
    by_cases hy : 0 ≤ y.toInt ∧ y.toInt < (4 : Nat)
    · rw [if_pos hy]
      obtain ⟨s, hs, rfl⟩ := of_rng hx (by decide)
      obtain ⟨l, hl, rfl⟩ := of_rng hy (by decide)
      by_cases hz : z ≤ 24
      · rw [if_pos hz]
        by_cases hz0 : 0 ≤ z
        · rw [if_pos hz0]
          rw [L24, le_lit (by decide)] at hz
          rw [L0, Int32.le_iff_toInt_le] at hz0
          have hz0' : 0 ≤ z.toInt := hz0
          obtain ⟨n, hn, rfl⟩ := of_rng (x := z) (n := 25) (by omega) (by decide)
          have hr : inR (nI s) 4 := inR_t hs (by decide)
          simp only [ck_t hr]
          rw [TN_nI (by omega), beginI, ob_s]
          let τ1 := s2 (sI (sI σ (56 + 2 * s) 0 (nI l)) (56 + 2 * s) 1 (nI n)) (56 + 2 * s + 1) (zrf (σ.2 (56 + 2 * s + 1)) 0 24)
          let τ2 := s2 (sI (sI τ1 92 s (nI n)) 93 s (nI l)) 94 (zrf (σ.2 94) (24 * s) 24)
          have t94 : (sI (sI τ1 92 s (nI n)) 93 s (nI l)).2 94 = σ.2 94 := by
            show (s2 _ _ _).2 94 = _
            rw [s2_ne (by omega)]; rfl
          refine ⟨nI n, τ1, τ2, rfl, ?_, ?_⟩
          · rw [if_bP, if_pos ⟨hx, hy⟩, if_pos (by rw [L24]; exact nI_le (by omega) (by decide)), if_pos (by rw [L0]; exact nI_le (Nat.zero_le _) (by omega))]
            rw [bd_e, bd_e, sheet40 hs, t94]
          · refine hI.sheet s (fun c c1 c2 c3 => ?_) (fun c c1 c2 => ?_) (fun j hj => ⟨?_, ?_⟩) (fun j hj => ?_) hs ?_
            · show (sI (sI (s2 (sI (sI σ (56 + 2 * s) 0 _) (56 + 2 * s) 1 _) _ _) 92 s _) 93 s _).1 c = _
              rw [sI_ne c3, sI_ne c2, s2_1, sI_ne c1, sI_ne c1]
            · show (s2 _ 94 _).2 c = _
              rw [s2_ne c2]
              show (s2 _ (56 + 2 * s + 1) _).2 c = _
              rw [s2_ne c1]; rfl
            · show (sI (sI τ1 92 s (nI n)) 93 s (nI l)).1 92 j = _
              rw [sI_ne (by decide), sI_o hj, s2_1, sI_ne (by omega), sI_ne (by omega)]
            · show (sI (sI τ1 92 s (nI n)) 93 s (nI l)).1 93 j = _
              rw [sI_o hj, sI_ne (by decide), s2_1, sI_ne (by omega), sI_ne (by omega)]
            · show (s2 _ 94 _).2 94 j = _
              rw [s2_eq]; unfold zrf; rw [if_neg (by omega)]
            · right
              refine ⟨l, n, hl, by omega, ?_, ?_, ?_, ?_, fun j hj => ?_⟩
              · show (sI (sI τ1 92 s (nI n)) 93 s (nI l)).1 (56 + 2 * s) 0 = _
                rw [sI_ne (by omega), sI_ne (by omega), s2_1, sI_o (by decide), sI_at]
              · show (sI (sI τ1 92 s (nI n)) 93 s (nI l)).1 (56 + 2 * s) 1 = _
                rw [sI_ne (by omega), sI_ne (by omega), s2_1, sI_at]
              · show (sI (sI τ1 92 s (nI n)) 93 s (nI l)).1 92 s = _
                rw [sI_ne (by decide), sI_at]
              · show (sI (sI τ1 92 s (nI n)) 93 s (nI l)).1 93 s = _
                rw [sI_at]
              · show (s2 _ 94 _).2 (56 + 2 * s + 1) j = (s2 _ 94 _).2 94 (24 * s + j)
                rw [s2_ne (by omega), s2_eq]
                show (s2 _ (56 + 2 * s + 1) _).2 (56 + 2 * s + 1) j = _
                rw [s2_eq]; unfold zrf; rw [if_pos (by omega), if_pos (by omega)]
        · rw [if_neg hz0]
          refine ⟨-14, σ, σ, rfl, ?_, hI⟩
          rw [if_bP, if_pos ⟨hx, hy⟩, if_pos hz, if_neg hz0]
      · rw [if_neg hz]
        refine ⟨-1, σ, σ, rfl, ?_, hI⟩
        rw [if_bP, if_pos ⟨hx, hy⟩, if_neg hz]
    · rw [if_neg hy]
      exact ⟨-1, σ, σ, rfl, by rw [if_bP, if_neg (fun q => hy q.2)], hI⟩
  · rw [if_neg hx]
    exact ⟨-1, σ, σ, rfl, by rw [if_bP, if_neg (fun q => hx q.1)], hI⟩
theorem step_drop {σ : gS} (hI : Inv σ) (x : Int32) : ∃ r σ1 σ2, F_X11_drop_0 x σ = some (r, σ1) ∧ F_X12_drop_0 x σ1 = some (r, σ2) ∧ Inv σ2 := by
  unfold F_X11_drop_0 F_X12_drop_0
  rw [ishI, if_bP, inL x 0 3 (p := 0) (q := 3) rfl rfl]
  by_cases hx : 0 ≤ x.toInt ∧ x.toInt < (4 : Nat)
  · rw [if_pos hx]
    obtain ⟨s, hs, rfl⟩ := of_rng hx (by decide)
    have hr : inR (nI s) 4 := inR_t hs (by decide)
    simp only [ck_t hr]
    rw [TN_nI (by omega)]
    obtain ⟨o, o1, o2, o3⟩ := ISs_o.mp (hI.2.2.2.2 s hs)
    rw [nothI o1, if_bP]
    cases o with
    | none =>
      rw [if_pos rfl]
      refine ⟨-11, σ, σ, rfl, ?_, hI⟩
      have o2 : σ.1 92 s = -1 := o2
      rw [if_bP, if_pos (by omega), o2, if_neg (by decide)]
    | some p =>
      obtain ⟨a1, a2, a3, a4⟩ := o1
      obtain ⟨b1, b2, b3, b4⟩ := o2
      rw [if_neg (by simp)]
      unfold F_X8_end_0
      rw [bd_e, ob2_s, sI_o (by decide), a2]
      refine ⟨nI p.2, sI σ (56 + 2 * s) 0 (-1), sI (sI σ (56 + 2 * s) 0 (-1)) 92 s (-1), rfl, ?_, ?_⟩
      · rw [if_bP, if_pos (by omega), sI_ne (by omega), b1, if_pos (by rw [L0]; exact nI_le (Nat.zero_le _) (by omega)), bd_e, bd_e]
      · refine hI.sheet s (fun c c1 c2 c3 => ?_) (fun c c1 c2 => rfl) (fun j hj => ⟨?_, ?_⟩) (fun j hj => rfl) hs (Or.inl ⟨?_, ?_⟩)
        · rw [sI_ne c2, sI_ne c1]
        · rw [sI_o hj, sI_ne (by omega)]
        · rw [sI_ne (by decide), sI_ne (by omega)]
        · rw [sI_ne (by omega), sI_at]
        · rw [sI_at]
  · rw [if_neg hx]
    exact ⟨-1, σ, σ, rfl, by rw [if_bP, if_neg (by omega)], hI⟩
