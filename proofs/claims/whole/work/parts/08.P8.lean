/-! PURE 8: copies; does, undo -/
theorem copiesM {σ : gS} {c0 c2 i j n : Nat} (hc : c0 ≠ c2) (h1 : i + n ≤ ln c0) (h2 : j + n ≤ ln c2) (l1 : ln c0 < 2 ^ 31) (l2 : ln c2 < 2 ^ 31) (hn : n < 20000) :
    F_X12_copies_0 c0 c2 (nI i) (nI j) (nI n) σ = some (s1 σ c2 (va_cpy (σ.1 c0) (σ.1 c2) i j n)) := by
  have e0 : va_cpy (σ.1 c0) (σ.1 c2) i j 0 = σ.1 c2 := by
    funext k; unfold va_cpy; rw [if_neg (by omega)]
  have es : ∀ k, upd (va_cpy (σ.1 c0) (σ.1 c2) i j k) (j + k) (σ.1 c0 (i + k)) = va_cpy (σ.1 c0) (σ.1 c2) i j (k + 1) := by
    intro k
    funext a
    unfold upd va_cpy
    by_cases ha : a = j + k
    · rw [if_pos ha, if_pos (by omega), show i + (a - j) = i + k by omega]
    · rw [if_neg ha]
      by_cases hb : j ≤ a ∧ a < j + k
      · rw [if_pos hb, if_pos (by omega)]
      · rw [if_neg hb, if_neg (by omega)]
  have key : ∀ (m k f : Nat), k + m = n → m < f → F_X12_copies_3 c0 c2 f (nI i) (nI j) (nI n) (nI k) (s1 σ c2 (va_cpy (σ.1 c0) (σ.1 c2) i j k)) = some (s1 σ c2 (va_cpy (σ.1 c0) (σ.1 c2) i j n)) := by
    intro m
    induction m with
    | zero =>
      intro k f hk hf
      obtain ⟨f, rfl⟩ : ∃ g, f = g + 1 := ⟨f - 1, by omega⟩
      rw [F_X12_copies_3, if_pos (nI_le (by omega) (by omega)), show k = n by omega]
    | succ m ih =>
      intro k f hk hf
      obtain ⟨f, rfl⟩ : ∃ g, f = g + 1 := ⟨f - 1, by omega⟩
      rw [F_X12_copies_3, if_neg (nI_ge (by omega) (by omega)), nI_add, nI_add, ck_t (inR_t (by omega) l1), ck_t (inR_t (by omega) l2), TN_nI (by omega), TN_nI (by omega), bd_e, bd_e, s1_ne hc, sI_s1', es, show nI k + 1 = nI (k + 1) from nI_1 k]
      exact ih (k + 1) f (by omega) (by omega)
  have := key n 0 fu (by omega) (by unfold fu; omega)
  rw [e0, s1_id] at this
  exact this
theorem lgLT (a b : Int64) : (lg_cmp a b < 0) = (a.toInt < b.toInt) := propext ((lg_cmp_lt a b).trans Int64.lt_iff_toInt_lt)
theorem lgGT (a b : Int64) : (0 < lg_cmp a b) = (b.toInt < a.toInt) := propext ((lg_cmp_gt a b).trans Int64.lt_iff_toInt_lt)
theorem lgLE (a b : Int64) : (lg_cmp a b ≤ 0) = (a.toInt ≤ b.toInt) := propext ((lg_cmp_le a b).trans Int64.le_iff_toInt_le)
theorem lgGE (a b : Int64) : (0 ≤ lg_cmp a b) = (b.toInt ≤ a.toInt) := propext ((lg_cmp_ge a b).trans Int64.le_iff_toInt_le)
theorem lgEQ (a b : Int64) : (lg_cmp a b = 0) = (a.toInt = b.toInt) := propext ((lg_cmp_eq a b).trans Int64.toInt_inj.symm)
theorem bI_t {P : Prop} [Decidable P] (h : P) : (1 : Int32) = bI (decide P) := by rw [decide_eq_true h]; rfl
theorem bI_f {P : Prop} [Decidable P] (h : ¬ P) : (0 : Int32) = bI (decide P) := by rw [decide_eq_false h]; rfl
abbrev okDi (K : CS) (z : Int) : Prop := 0 < kS K ∧ ((0 ≤ z ∧ z < (kD K : Int)) ∨ (10 ≤ z ∧ z < 10 + (kT K : Int)) ∨ (20 ≤ z ∧ z ≤ 21))
theorem stI {σ : gS} {b n : Nat} (h : σ.1 b 0 = nI n) (hn : n < 2 ^ 31) : F_X2_stands_0 b σ = bI (decide (0 < n)) := by
  unfold F_X2_stands_0
  rw [h]
  by_cases hz : 0 < n
  · rw [if_neg (by rw [L0]; exact nI_ge hz hn)]; exact bI_t hz
  · rw [if_pos (by rw [L0]; exact nI_le (by omega) (by decide))]; exact bI_f hz
theorem hdoI {σ : gS} {K : CS} (hS : SC 10 σ K) (hK : okK K) (v : Int64) : F_X2_hasDoing_0 v σ = bI (decide (okDi K v.toInt)) := by
  obtain ⟨k1, k2, k3, k4, k5, -⟩ := hK
  unfold F_X2_hasDoing_0 F_X2_hasDoing_62
  rw [stI hS.1 (by omega), if_bP, hS.2.1, hS.2.2.1, L10, nI_add]
  simp only [lgLT, lgLE, lgGE, t64]
  rw [nI_toInt (by omega), nI_toInt (by omega)]
  simp only [show (0 : Int64).toInt = 0 from rfl, show (21 : Int64).toInt = 21 from rfl, show (20 : Int64).toInt = 20 from rfl, show (10 : Int64).toInt = 10 from rfl]
  split
  · split
    · exact bI_f (by omega)
    · split
      · split
        · exact bI_t (by omega)
        · split
          · exact bI_t (by omega)
          · split
            · exact bI_f (by omega)
            · split
              · exact bI_f (by omega)
              · exact bI_t (by omega)
      · exact bI_f (by omega)
  · exact bI_f (by omega)
theorem idoM {σ : gS} {K : CS} (hS : SM (σ.1 83) K) (hK : okK K) (v : Int64) : F_X12_isDoing_0 v σ = some (bI (decide (okDi K v.toInt))) := by
  obtain ⟨k1, k2, k3, k4, k5, -⟩ := hK
  unfold F_X12_isDoing_0 F_X12_isDoing_59
  rw [inM, inM, inM, if_bP, if_bP, if_bP, hS.1, hS.2.1, hS.2.2.1, t64, t64, pm1 (by omega), L9, nI_add, nI_toInt (by omega)]
  simp only [show (0 : Int64).toInt = 0 from rfl, show (21 : Int64).toInt = 21 from rfl, show (20 : Int64).toInt = 20 from rfl, show (10 : Int64).toInt = 10 from rfl]
  have e : ∀ (x y : Option Int32), (if nI (kS K) ≤ 0 then x else y) = if kS K = 0 then x else y := by
    intro x y
    by_cases hz : kS K = 0
    · rw [if_pos (by rw [hz]; decide), if_pos hz]
    · rw [if_neg (by rw [L0]; exact nI_ge (by omega) (by omega)), if_neg hz]
  rw [e]
  split
  · exact congrArg some (bI_t (by omega))
  · split
    · exact congrArg some (bI_t (by omega))
    · split
      · split
        · exact congrArg some (bI_f (by omega))
        · exact congrArg some (bI_t (by omega))
      · exact congrArg some (bI_f (by omega))
theorem okD_of {K : CS} {z : Int} (hK : okK K) (h : okDi K z) : ∃ d : Nat, z = d ∧ okD K d := by
  obtain ⟨k1, k2, k3, -⟩ := hK
  refine ⟨z.toNat, by omega, ?_⟩
  unfold okD
  omega
theorem of_toInt {x : Int32} {d : Nat} (h : x.toInt = d) : x = nI d := by
  apply Int32.toInt_inj.mp
  have := Int32.toInt_lt x
  rw [h, nI_toInt (by omega)]
/-- the class's doing -/
theorem does_class {σ : gS} {K : CS} {w : Nat → Nat} {q : Nat → QD} {m h nx d : Nat} (hC : IC σ K w q m) (hd : okD K d) (hS0 : 0 < kS K) (hm : m < 9999) (h1 : h ≤ 24) (h2 : nx < 24) (h3 : σ.1 16 0 = nI h) (h4 : σ.1 16 1 = nI nx) :
    ∃ σ1, F_X11_does_0 (nI d) σ = some (nI (rsN (kS K) (fun i => decide (hueQ (afQ K i d (q i)) = w i))), σ1) ∧ σ1.2 = σ.2 ∧ (∀ c, c ≠ 10 → c ≠ 13 → c ≠ 16 → c ≠ 18 + nx → σ1.1 c = σ.1 c) ∧ (∀ j, j ≠ 3 → σ1.1 10 j = σ.1 10 j) ∧ σ1.1 10 3 = nI (m + 1) ∧ RQ (σ1.1 13) (kS K) (fun k => afQ K k d (q k)) ∧ σ1.1 16 0 = nI (min (h + 1) 24) ∧ σ1.1 16 1 = nI ((nx + 1) % 24) ∧ RQ (σ1.1 (18 + nx)) (kS K) q := by
  obtain ⟨hK, hS, hw, hq, -, -, -, hd1, -, -⟩ := hC
  have h8 : kS K ≤ 8 := hK.1
  have hd21 : d ≤ 21 := by have h4 : kD K ≤ 4 := hK.2.1; have h3 : kT K ≤ 3 := hK.2.2.1; unfold okD at hd; omega
  have hdi : okDi K ((nI d).toInt64.toInt) := by
    rw [t64, nI_toInt (by omega)]
    unfold okD at hd
    omega
  -- keep
  let τ1 := cI σ 13 0 (18 + nx) 0 8
  let τ2 := sI τ1 16 1 (nI ((nx + 1) % 24))
  let τ3 := sI τ2 16 0 (nI (min (h + 1) 24))
  have hkeep : F_X4_keep_0 13 σ = some τ3 := by
    unfold F_X4_keep_0
    have e1 : (cI σ 13 0 (18 + nx) 0 8).1 16 1 = nI nx := by rw [cI_ne (by omega)]; exact h4
    rw [h4, ck_t (inR_t h2 (by decide)), ck_t (by decide), TN_nI (by omega), bd_e, e1]
    have e2 : nI nx + 1 - (nI nx + 1) / 24 * 24 = nI ((nx + 1) % 24) := by
      rw [show nI nx + 1 = nI (nx + 1) from nI_1 nx, L24, pk_rem (by omega) (by decide) (by decide)]
    rw [e2, bd_e]
    have e3 : (sI (cI σ 13 0 (18 + nx) 0 8) 16 1 (nI ((nx + 1) % 24))).1 16 0 = nI h := by rw [sI_o (by decide), cI_ne (by omega)]; exact h3
    rw [e3, show nI h + 1 = nI (h + 1) from nI_1 h, L24, mn_nI (by omega) (by decide), bd_e]
  have k1 : ∀ c, c ≠ 16 → c ≠ 18 + nx → τ3.1 c = σ.1 c := by
    intro c c1 c2
    show (sI (sI (cI σ 13 0 (18 + nx) 0 8) 16 1 _) 16 0 _).1 c = _
    rw [sI_ne c1, sI_ne c1, cI_ne c2]
  have hS3 : SC 10 τ3 K := hS.keep (k1 _ (by omega) (by omega)) (k1 _ (by omega) (by omega)) (k1 _ (by omega) (by omega)) (k1 _ (by omega) (by omega))
  have hq3 : RQ (τ3.1 13) (kS K) q := by rw [k1 13 (by omega) (by omega)]; exact hq
  have hap := applyI (c2 := 13) (c3 := 13) hS3 hK hq3 hd (by decide) (by decide) (by decide) (by decide)
  let τ4 := s1 τ3 13 (apR (τ3.1 13) K d q (kS K))
  let τ5 := sI τ4 10 3 (nI (m + 1))
  have k5 : ∀ c, c ≠ 10 → c ≠ 13 → τ5.1 c = τ3.1 c := by
    intro c c1 c2
    show (sI (s1 τ3 13 _) 10 3 _).1 c = _
    rw [sI_ne c1, s1_ne c2]
  have k10 : ∀ j, j ≠ 3 → τ5.1 10 j = σ.1 10 j := by
    intro j hj
    show (sI (s1 τ3 13 _) 10 3 _).1 10 j = _
    rw [sI_o hj, s1_ne (by decide), k1 10 (by omega) (by omega)]
  have hq5 : RQ (τ5.1 13) (kS K) (fun k => afQ K k d (q k)) := by
    show RQ ((sI (s1 τ3 13 _) 10 3 _).1 13) _ _
    rw [sI_ne (by decide), s1_eq]
    exact apR_RQ (fun i hi => (hq i hi).2)
  have hS5 : SC 10 τ5 K := by
    obtain ⟨a1, a2, a3, a4, a5, a6⟩ := hS3
    refine ⟨?_, ?_, ?_, ?_, ?_, ?_⟩
    · rw [k10 0 (by decide)]; exact hS.1
    · rw [k10 1 (by decide)]; exact hS.2.1
    · rw [k10 2 (by decide)]; exact hS.2.2.1
    · rw [k5 (10 + 1) (by omega) (by omega)]; exact a4
    · rw [k5 (10 + 4) (by omega) (by omega)]; exact a5
    · rw [k5 (10 + 5) (by omega) (by omega)]; exact a6
  have hw5 : RW (τ5.1 12) (kS K) w := by rw [k5 12 (by omega) (by omega), k1 12 (by omega) (by omega)]; exact hw
  refine ⟨τ5, ?_, rfl, fun c c1 c2 c3 c4 => by rw [k5 c c1 c2, k1 c c3 c4], k10, sI_at _ _ _ _, hq5, ?_, ?_, ?_⟩
  · unfold F_X11_does_0
    rw [hdoI hS hK, if_bP, if_pos hdi, hd1, if_pos (by rw [show (9999 : Int32) = nI 9999 from rfl]; exact nI_lt hm (by decide)), hkeep, ob_s, hap, ob2_s]
    have e1 : τ4.1 10 3 = nI m := by
      show (s1 τ3 13 _).1 10 3 = _
      rw [s1_ne (by decide), k1 10 (by omega) (by omega)]; exact hd1
    show bd (sI τ4 10 3 (τ4.1 10 3 + 1)) _ = _
    rw [e1, show nI m + 1 = nI (m + 1) from nI_1 m, bd_e]
    show ob (F_X2_rightSet_0 13 τ5) _ = _
    rw [rightSetI hS5 hK hw5 hq5, ob_s]
  · rw [k5 16 (by decide) (by decide)]; exact sI_at _ _ _ _
  · rw [k5 16 (by decide) (by decide)]
    show (sI τ2 16 0 _).1 16 1 = _
    rw [sI_o (by decide)]; exact sI_at _ _ _ _
  · rw [k5 (18 + nx) (by omega) (by omega)]
    show RQ ((sI (sI (cI σ 13 0 (18 + nx) 0 8) 16 1 _) 16 0 _).1 (18 + nx)) _ _
    rw [sI_ne (by omega), sI_ne (by omega), cI_eq]
    intro i hi
    refine ⟨?_, (hq i hi).2⟩
    rw [show (0 : Int32).toNatClampNeg = 0 from rfl, show (8 : Int32).toNatClampNeg = 8 from rfl]
    unfold va_cpy
    rw [if_pos (by omega), show 0 + (i - 0) = i by omega]
    exact (hq i hi).1
def shf (f : Nat → Int32) (k : Nat) : Nat → Int32 := fun j => if j < k then f (j + 32) else f j
theorem shiftM {σ : gS} (x : Int32) : F_X12_does_35 fu x 0 σ = (let τ := s1 σ 88 (shf (σ.1 88) 736); F_X12_does_73 x (sI τ 82 7 (τ.1 82 7 - 1))) := by
  have e0 : shf (σ.1 88) 0 = σ.1 88 := by funext k; unfold shf; rw [if_neg (by omega)]
  have es : ∀ k, upd (shf (σ.1 88) k) k (shf (σ.1 88) k (k + 32)) = shf (σ.1 88) (k + 1) := by
    intro k
    funext a
    unfold upd shf
    by_cases ha : a = k
    · rw [if_pos ha, if_neg (by omega), if_pos (by omega), ha]
    · rw [if_neg ha]
      by_cases hb : a < k
      · rw [if_pos hb, if_pos (by omega)]
      · rw [if_neg hb, if_neg (by omega)]
  have key : ∀ (m k f : Nat), k + m = 736 → m < f → F_X12_does_35 f x (nI k) (s1 σ 88 (shf (σ.1 88) k)) = (let τ := s1 σ 88 (shf (σ.1 88) 736); F_X12_does_73 x (sI τ 82 7 (τ.1 82 7 - 1))) := by
    intro m
    induction m with
    | zero =>
      intro k f hk hf
      obtain ⟨f, rfl⟩ : ∃ g, f = g + 1 := ⟨f - 1, by omega⟩
      rw [F_X12_does_35, if_pos (by rw [show (736 : Int32) = nI 736 from rfl]; exact nI_le (by omega) (by omega)), show k = 736 by omega, bd_e]
    | succ m ih =>
      intro k f hk hf
      obtain ⟨f, rfl⟩ : ∃ g, f = g + 1 := ⟨f - 1, by omega⟩
      rw [F_X12_does_35, if_neg (by rw [show (736 : Int32) = nI 736 from rfl]; exact nI_ge (by omega) (by decide)), L32, nI_add, ck_t (inR_t (by omega) (by decide)), ck_t (inR_t (by omega) (by decide)), TN_nI (by omega), TN_nI (by omega), bd_e, bd_e, s1_eq, sI_s1', es, show nI k + 1 = nI (k + 1) from nI_1 k]
      exact ih (k + 1) f (by omega) (by omega)
  have := key 736 0 fu (by omega) (by unfold fu; omega)
  rw [e0, s1_id] at this
  exact this
/-- the reference's doing, once there is room for one more -/
theorem does73 {σ : gS} {K : CS} {w : Nat → Nat} {q : Nat → QD} {m u d : Nat} (hK : okK K) (hM : SM (σ.1 83) K) (hwM : WM (σ.1 86) (kS K) w) (hqM : QM (σ.1 86) (kS K) q) (h5 : σ.1 82 5 = nI m) (h7 : σ.1 82 7 = nI u) (hu : u < 24) (hd : okD K d) :
    ∃ σ2, F_X12_does_73 (nI d) σ = some (nI (rsN (kS K) (fun i => decide (hueQ (afQ K i d (q i)) = w i))), σ2) ∧ σ2.2 = σ.2 ∧ (∀ c, c ≠ 82 → c ≠ 86 → c ≠ 88 → σ2.1 c = σ.1 c) ∧ (∀ j, j ≠ 5 → j ≠ 7 → σ2.1 82 j = σ.1 82 j) ∧ σ2.1 82 5 = nI (m + 1) ∧ σ2.1 82 7 = nI (u + 1) ∧ QM (σ2.1 86) (kS K) (fun k => afQ K k d (q k)) ∧ WM (σ2.1 86) (kS K) w ∧ σ2.1 88 = va_cpy (σ.1 86) (σ.1 88) 0 (32 * u) 32 := by
  have h8 : kS K ≤ 8 := hK.1
  have hcp := copiesM (σ := σ) (c0 := 86) (c2 := 88) (i := 0) (j := 32 * u) (n := 32) (by decide) (by decide) (by show 32 * u + 32 ≤ 768; omega) (by decide) (by decide) (by decide)
  let τ1 := s1 σ 88 (va_cpy (σ.1 86) (σ.1 88) 0 (32 * u) 32)
  let τ2 := sI τ1 82 7 (nI (u + 1))
  let τ3 := sI τ2 82 5 (nI (m + 1))
  have k3 : ∀ c, c ≠ 82 → c ≠ 88 → τ3.1 c = σ.1 c := by
    intro c c1 c2
    show (sI (sI (s1 σ 88 _) 82 7 _) 82 5 _).1 c = _
    rw [sI_ne c1, sI_ne c1, s1_ne c2]
  have hda := doesAllM (σ := τ3) (c := 86) (q := q) (by rw [k3 83 (by decide) (by decide)]; exact hM) hK (by decide) hd (by rw [k3 86 (by decide) (by decide)]; exact hqM)
  let τ4 := s1 τ3 86 (mrR (τ3.1 86) (fun k => afQ K k d (q k)) (kS K))
  have hq4 : QM (τ4.1 86) (kS K) (fun k => afQ K k d (q k)) := by
    show QM ((s1 τ3 86 _).1 86) _ _
    rw [s1_eq]; exact mrR_QM h8 (fun i hi => afQ_ok (hqM i hi).2.2.2.2)
  have hw4 : WM (τ4.1 86) (kS K) w := by
    intro i hi
    show (s1 τ3 86 _).1 86 (32 + i) = _ ∧ _
    rw [s1_eq, mrR_hi (by omega), k3 86 (by decide) (by decide)]
    exact hwM i hi
  have hro := rightOnM (σ := τ4) (c := 86) (by show SM ((s1 τ3 86 _).1 83) K; rw [s1_ne (by decide), k3 83 (by decide) (by decide)]; exact hM) hK hw4 hq4
  refine ⟨τ4, ?_, rfl, fun c c1 c2 c3 => ?_, fun j j1 j2 => ?_, ?_, ?_, hq4, hw4, ?_⟩
  · unfold F_X12_does_73
    rw [h7, L32, pk_mul, L0, hcp, ob_s]
    have e7 : τ1.1 82 7 = nI u := by show (s1 σ 88 _).1 82 7 = _; rw [s1_ne (by decide)]; exact h7
    show bd (sI τ1 82 7 (τ1.1 82 7 + 1)) _ = _
    rw [e7, show nI u + 1 = nI (u + 1) from nI_1 u, bd_e]
    have e5 : τ2.1 82 5 = nI m := by show (sI (s1 σ 88 _) 82 7 _).1 82 5 = _; rw [sI_o (by decide), s1_ne (by decide)]; exact h5
    show bd (sI τ2 82 5 (τ2.1 82 5 + 1)) _ = _
    rw [e5, show nI m + 1 = nI (m + 1) from nI_1 m, bd_e]
    show ob (F_X12_doesAll_0 86 (nI d) τ3) _ = _
    rw [hda, ob_s]
    show ob (F_X12_rightOn_0 86 τ4) _ = _
    rw [hro, ob_s]
  · show (s1 τ3 86 _).1 c = _
    rw [s1_ne c2, k3 c c1 c3]
  · show (s1 τ3 86 _).1 82 j = _
    rw [s1_ne (by decide)]
    show (sI (sI (s1 σ 88 _) 82 7 _) 82 5 _).1 82 j = _
    rw [sI_o j1, sI_o j2, s1_ne (by decide)]
  · show (s1 τ3 86 _).1 82 5 = _
    rw [s1_ne (by decide)]; exact sI_at _ _ _ _
  · show (s1 τ3 86 _).1 82 7 = _
    rw [s1_ne (by decide)]
    show (sI τ2 82 5 _).1 82 7 = _
    rw [sI_o (by decide)]; exact sI_at _ _ _ _
  · show (s1 τ3 86 _).1 88 = _
    rw [s1_ne (by decide)]
    show (sI (sI (s1 σ 88 _) 82 7 _) 82 5 _).1 88 = _
    rw [sI_ne (by decide), sI_ne (by decide), s1_eq]
