/-! PURE 6: the invariant; guards; the calls that only read -/
def IC (σ : gS) (K : CS) (w : Nat → Nat) (q : Nat → QD) (m : Nat) : Prop := okK K ∧ SC 10 σ K ∧ RW (σ.1 12) (kS K) w ∧ RQ (σ.1 13) (kS K) q ∧ SM (σ.1 83) K ∧ WM (σ.1 86) (kS K) w ∧ QM (σ.1 86) (kS K) q ∧ σ.1 10 3 = nI m ∧ σ.1 82 5 = nI m ∧ m ≤ 9999
def IP (σ : gS) (K : CS) (m : Nat) : Prop := ∃ h nx : Nat, h ≤ m ∧ h ≤ 24 ∧ nx < 24 ∧ σ.1 16 0 = nI h ∧ σ.1 16 1 = nI nx ∧ σ.1 82 7 = nI h ∧ ∃ H : Nat → Nat → QD, ∀ j, j < h → RQ (σ.1 (18 + (nx + 24 - h + j) % 24)) (kS K) (H j) ∧ QM (fun k => σ.1 88 (32 * j + k)) (kS K) (H j)
def IKk (σ : gS) (k : Nat) : Prop := (σ.1 (43 + 6 * k) 0 = 0 ∧ σ.1 90 k = 0) ∨ (σ.1 90 k = 1 ∧ ∃ (K : CS) (w : Nat → Nat) (q : Nat → QD) (m : Nat), okK K ∧ 0 < kS K ∧ SC (43 + 6 * k) σ K ∧ RW (σ.1 (43 + 6 * k + 2)) (kS K) w ∧ RQ (σ.1 (43 + 6 * k + 3)) (kS K) q ∧ SM (fun j => σ.1 89 (67 * k + j)) K ∧ WM (fun j => σ.1 89 (67 * k + 26 + j)) (kS K) w ∧ QM (fun j => σ.1 89 (67 * k + 26 + j)) (kS K) q ∧ σ.1 (43 + 6 * k) 3 = nI m ∧ σ.1 89 (67 * k + 66) = nI m ∧ m ≤ 9999)
def IT (σ : gS) : Prop := ∃ n : Nat, n ≤ 80 ∧ σ.1 1 0 = nI n ∧ σ.1 82 11 = nI n ∧ ∀ j, j < n → σ.1 2 j = σ.1 91 j ∧ ∃ b, b < 256 ∧ σ.1 91 j = nI b
def IR (σ : gS) : Prop := (∀ j, j < 8 → σ.1 7 j = 0) ∧ σ.1 4 3 = 0
def ISs (σ : gS) (s : Nat) : Prop := (σ.1 (56 + 2 * s) 0 = -1 ∧ σ.1 92 s = -1) ∨ (∃ l n : Nat, l < 4 ∧ n ≤ 24 ∧ σ.1 (56 + 2 * s) 0 = nI l ∧ σ.1 (56 + 2 * s) 1 = nI n ∧ σ.1 92 s = nI n ∧ σ.1 93 s = nI l ∧ ∀ j, j < 24 → σ.2 (56 + 2 * s + 1) j = σ.2 94 (24 * s + j))
def Inv (σ : gS) : Prop := (∃ K w q m, IC σ K w q m ∧ IP σ K m) ∧ (∀ k, k < 2 → IKk σ k) ∧ IT σ ∧ IR σ ∧ ∀ s, s < 4 → ISs σ s
/-! guards -/
theorem t64 (x : Int32) : x.toInt64.toInt = x.toInt := Int32.toInt_toInt64 x
theorem inM (a b c : Int64) : F_X12_in_0 a b c = bI (decide (b.toInt ≤ a.toInt ∧ a.toInt ≤ c.toInt)) := by
  unfold F_X12_in_0 bI
  have e1 : lg_cmp a b < 0 ↔ a.toInt < b.toInt := (lg_cmp_lt a b).trans Int64.lt_iff_toInt_lt
  have e2 : 0 < lg_cmp a c ↔ c.toInt < a.toInt := (lg_cmp_gt a c).trans Int64.lt_iff_toInt_lt
  by_cases h1 : a.toInt < b.toInt
  · rw [if_pos (e1.mpr h1)]
    simp [show ¬ (b.toInt ≤ a.toInt ∧ a.toInt ≤ c.toInt) by omega]
  · rw [if_neg (fun q => h1 (e1.mp q))]
    by_cases h2 : c.toInt < a.toInt
    · rw [if_pos (e2.mpr h2)]
      simp [show ¬ (b.toInt ≤ a.toInt ∧ a.toInt ≤ c.toInt) by omega]
    · rw [if_neg (fun q => h2 (e2.mp q))]
      simp [show (b.toInt ≤ a.toInt ∧ a.toInt ≤ c.toInt) by omega]
theorem bI_0 (b : Bool) : (bI b = 0) ↔ b = false := by cases b <;> decide
theorem if_bP {α : Type} {P : Prop} [Decidable P] {_i : Decidable (bI (decide P) = 0)} (x y : α) : (if bI (decide P) = 0 then x else y) = if P then y else x := by
  by_cases h : P
  · have e : ¬ bI (decide P) = 0 := by rw [decide_eq_true h]; decide
    rw [if_neg e, if_pos h]
  · have e : bI (decide P) = 0 := by rw [decide_eq_false h]; decide
    rw [if_pos e, if_neg h]
theorem of_rng {x : Int32} {n : Nat} (h : 0 ≤ x.toInt ∧ x.toInt < n) (hn : n < 2 ^ 31) : ∃ j : Nat, j < n ∧ x = nI j := vp_in_of (vp_in_iff.mpr h) hn
theorem rng_nI {j n : Nat} (h : j < n) (hn : n < 2 ^ 31) : 0 ≤ (nI j).toInt ∧ (nI j).toInt < n := by rw [nI_toInt (by omega)]; omega
theorem pm1 {n : Nat} (h : n < 2 ^ 30) : (nI n - 1).toInt = (n : Int) - 1 := pk_sub_toInt (b := 1) h (by decide)
theorem lt0 {x : Int32} : x < 0 ↔ x.toInt < 0 := Int32.lt_iff_toInt_lt
theorem nle {x : Int32} {n : Nat} (h : n < 2 ^ 31) : nI n ≤ x ↔ (n : Int) ≤ x.toInt := by rw [Int32.le_iff_toInt_le, nI_toInt h]
theorem hasI {x : Int32} {n : Nat} {v : Int32} (hv : v = nI n) (hn : n < 2 ^ 31) : (if x < 0 then (0 : Int32) else (if v ≤ x then 0 else 1)) = bI (decide (0 ≤ x.toInt ∧ x.toInt < n)) := by
  subst hv
  unfold bI
  by_cases h1 : x.toInt < 0
  · rw [if_pos (lt0.mpr h1)]; simp [show ¬ (0 ≤ x.toInt ∧ x.toInt < n) by omega]
  · rw [if_neg (fun q => h1 (lt0.mp q))]
    by_cases h2 : (n : Int) ≤ x.toInt
    · rw [if_pos ((nle hn).mpr h2)]; simp [show ¬ (0 ≤ x.toInt ∧ x.toInt < n) by omega]
    · rw [if_neg (fun q => h2 ((nle hn).mp q))]; simp [show (0 ≤ x.toInt ∧ x.toInt < n) by omega]
theorem hsqI {σ : gS} {n : Nat} {x : Int32} (h : σ.1 10 0 = nI n) (hn : n ≤ 8) : F_X2_hasSquare_0 x σ = bI (decide (0 ≤ x.toInt ∧ x.toInt < n)) := hasI h (by omega)
theorem hdyI {σ : gS} {n : Nat} {x : Int32} (h : σ.1 10 1 = nI n) (hn : n ≤ 8) : F_X2_hasDye_0 x σ = bI (decide (0 ≤ x.toInt ∧ x.toInt < n)) := hasI h (by omega)
theorem hstI {σ : gS} {n : Nat} {x : Int32} (h : σ.1 10 2 = nI n) (hn : n ≤ 8) : F_X2_hasStencil_0 x σ = bI (decide (0 ≤ x.toInt ∧ x.toInt < n)) := hasI h (by omega)
theorem iscI (x : Int32) : F_X9_isColour_0 x = bI (decide (0 ≤ x.toInt ∧ x.toInt < (3 : Nat))) := hasI (n := 3) rfl (by decide)
theorem isqM {σ : gS} {n : Nat} {x : Int32} (h : σ.1 83 0 = nI n) (hn : n ≤ 8) : F_X12_isSquare_0 x σ = some (bI (decide (0 ≤ x.toInt ∧ x.toInt < n))) := by
  unfold F_X12_isSquare_0
  rw [inM, t64, t64, h, pm1 (by omega), show (0 : Int64).toInt = 0 from rfl, ck_t (bI_nb _)]
  congr 2
  apply decide_eq_decide.mpr
  omega
theorem idyM {σ : gS} {n : Nat} {x : Int32} (h : σ.1 83 1 = nI n) (hn : n ≤ 8) : F_X12_isDye_0 x σ = some (bI (decide (0 ≤ x.toInt ∧ x.toInt < n))) := by
  unfold F_X12_isDye_0
  rw [inM, t64, t64, h, pm1 (by omega), show (0 : Int64).toInt = 0 from rfl, ck_t (bI_nb _)]
  congr 2
  apply decide_eq_decide.mpr
  omega
theorem inL (x : Int32) (a b : Int64) {p q : Int} (ha : a.toInt = p) (hb : b.toInt = q) : F_X12_in_0 x.toInt64 a b = bI (decide (p ≤ x.toInt ∧ x.toInt ≤ q)) := by
  rw [inM, t64, ha, hb]
theorem ne_lit {x : Int32} {k : Nat} (hk : k < 2 ^ 31) (h : ¬ (0 ≤ x.toInt ∧ x.toInt < (k : Int) + 1) ∨ x.toInt ≠ k) : ¬ x = nI k := by
  intro e; rw [e, nI_toInt hk] at h; omega
/-! square, as, dye, stencil, takes, count -/
theorem step_square {σ : gS} (hI : Inv σ) (x y : Int32) : ∃ r, F_X11_square_0 x y σ = some r ∧ F_X12_square_0 x y σ = some r := by
  obtain ⟨⟨K, w, q, m, ⟨hK, hS, hw, hq, hM, hwM, hqM, hd, hd2, hm⟩, -⟩, -⟩ := hI
  have h8 : kS K ≤ 8 := hK.1
  unfold F_X11_square_0 F_X12_square_0
  rw [hsqI hS.1 h8, isqM hM.1 h8, ob_s, if_bP, if_bP, inL y 0 8 (p := 0) (q := 8) rfl rfl, if_bP]
  by_cases hx : 0 ≤ x.toInt ∧ x.toInt < kS K
  · rw [if_pos hx, if_pos hx]
    obtain ⟨i, hi, rfl⟩ := of_rng hx (by omega)
    obtain ⟨g1, g2, g3, g4, g5⟩ := hqM i hi
    obtain ⟨w1, w2⟩ := hw i hi
    have hr : inR (nI i) 8 := inR_t (by omega) (by decide)
    simp only [ck_t hr]
    rw [TN_nI (by omega), (hq i hi).1, bd_e]
    by_cases hy : 0 ≤ y.toInt ∧ y.toInt ≤ 8
    · rw [if_pos hy]
      obtain ⟨j, hj, rfl⟩ := of_rng (n := 9) (x := y) (by omega) (by decide)
      have hj' : j = 0 ∨ j = 1 ∨ j = 2 ∨ j = 3 ∨ j = 4 ∨ j = 5 ∨ j = 6 ∨ j = 7 ∨ j = 8 := by omega
      have c6 : ∀ k, k < 3 → (nI (6 + k) - 6 : Int32) = nI k := by decide
      have c7 : ∀ k, k < 3 → (((0 : Int32) + (3 * nI i)) + nI (6 + k)) - 6 = nI (3 * i + k) := by
        intro k hk
        rw [ix3, L6, pk_sub (by omega), show 3 * i + (6 + k) - 6 = 3 * i + k by omega]
      have cA : ∀ k, k < 3 → F_X11_square_129 (nI (6 + k)) (nI (cd (q i))) σ = some (nI (cp (q i) k)) := by
        intro k hk
        unfold F_X11_square_129
        rw [c6 k hk, amt g5 hk]
      have cB : ∀ k, k < 3 → ck (inR ((((0 : Int32) + (3 * nI i)) + nI (6 + k)) - 6) 40) (some (σ.1 86 (Int32.toNatClampNeg ((((0 : Int32) + (3 * nI i)) + nI (6 + k)) - 6)))) = some (nI (cp (q i) k)) := by
        intro k hk
        rw [c7 k hk, ck_t (inR_t (by omega) (by decide)), TN_nI (by omega), hqM.c hi hk]
      rcases hj' with rfl | rfl | rfl | rfl | rfl | rfl | rfl | rfl | rfl
      · refine ⟨nI (kK K i), ?_, ?_⟩
        · rw [if_pos (by decide), hS.2.2.2.1 i hi]
        · rw [if_pos (by decide), L3, nI_add, ck_t (inR_t (by omega) (by decide)), TN_nI (by omega), hM.2.2.2.1 i hi]
      · refine ⟨nI (w i), ?_, ?_⟩
        · rw [if_neg (by decide), if_pos (by decide), w1]
        · rw [if_neg (by decide), if_pos (by decide), L32, nI_add, ck_t (inR_t (by omega) (by decide)), TN_nI (by omega), (hwM i hi).1]
      · refine ⟨nI (q i).2.2.2, ?_, ?_⟩
        · rw [if_neg (by decide), if_neg (by decide), if_pos (by decide), waxI g5]
        · rw [if_neg (by decide), if_neg (by decide), if_pos (by decide), L24, nI_add, ck_t (inR_t (by omega) (by decide)), TN_nI (by omega), g4]
      · refine ⟨nI (hueQ (q i)), ?_, ?_⟩
        · rw [if_neg (by decide), if_neg (by decide), if_neg (by decide), if_pos (by decide), hueI g5, ob_s]
        · rw [if_neg (by decide), if_neg (by decide), if_neg (by decide), if_pos (by decide), hueM (by omega) g1 g2 g3 g5, ob_s]
      · refine ⟨nI (dkQ (q i)), ?_, ?_⟩
        · rw [if_neg (by decide), if_neg (by decide), if_neg (by decide), if_neg (by decide), if_pos (by decide), darkI g5]
        · rw [if_neg (by decide), if_neg (by decide), if_neg (by decide), if_neg (by decide), if_pos (by decide), darkM (by omega) g1 g2 g3, ob_s]
      · refine ⟨if (if hueQ (q i) = w i then (1 : Int32) else 0) = 0 then 0 else 1, ?_, ?_⟩
        · rw [if_neg (by decide), if_neg (by decide), if_neg (by decide), if_neg (by decide), if_neg (by decide), if_pos (by decide), rightI hw hi h8 g5, ob_s]
          split <;> rfl
        · rw [if_neg (by decide), if_neg (by decide), if_neg (by decide), if_neg (by decide), if_neg (by decide), if_pos (by decide), rightM (by omega) g1 g2 g3 g5 (hwM i hi).1 (hwM i hi).2, ob_s]
          split <;> rfl
      · refine ⟨nI (cp (q i) 0), ?_, ?_⟩
        · rw [if_neg (by decide), if_neg (by decide), if_neg (by decide), if_neg (by decide), if_neg (by decide), if_neg (by decide), if_pos (by decide)]; exact cA 0 (by decide)
        · rw [if_neg (by decide), if_neg (by decide), if_neg (by decide), if_neg (by decide), if_neg (by decide), if_neg (by decide)]; exact cB 0 (by decide)
      · refine ⟨nI (cp (q i) 1), ?_, ?_⟩
        · rw [if_neg (by decide), if_neg (by decide), if_neg (by decide), if_neg (by decide), if_neg (by decide), if_neg (by decide), if_neg (by decide), if_pos (by decide)]; exact cA 1 (by decide)
        · rw [if_neg (by decide), if_neg (by decide), if_neg (by decide), if_neg (by decide), if_neg (by decide), if_neg (by decide)]; exact cB 1 (by decide)
      · refine ⟨nI (cp (q i) 2), ?_, ?_⟩
        · rw [if_neg (by decide), if_neg (by decide), if_neg (by decide), if_neg (by decide), if_neg (by decide), if_neg (by decide), if_neg (by decide), if_neg (by decide), if_pos (by decide)]; exact cA 2 (by decide)
        · rw [if_neg (by decide), if_neg (by decide), if_neg (by decide), if_neg (by decide), if_neg (by decide), if_neg (by decide)]; exact cB 2 (by decide)
    · refine ⟨-1, ?_, by rw [if_neg hy]⟩
      have n0 : ∀ k : Nat, k < 9 → ¬ y = nI k := fun k hk => ne_lit (by omega) (by omega)
      rw [if_neg (show ¬ y = 0 from n0 0 (by decide)), if_neg (show ¬ y = 1 from n0 1 (by decide)), if_neg (show ¬ y = 2 from n0 2 (by decide)), if_neg (show ¬ y = 3 from n0 3 (by decide)), if_neg (show ¬ y = 4 from n0 4 (by decide)), if_neg (show ¬ y = 5 from n0 5 (by decide)), if_neg (show ¬ y = 6 from n0 6 (by decide)), if_neg (show ¬ y = 7 from n0 7 (by decide)), if_neg (show ¬ y = 8 from n0 8 (by decide))]
  · exact ⟨-1, by rw [if_neg hx], by rw [if_neg hx]⟩
theorem step_dye {σ : gS} (hI : Inv σ) (x y : Int32) : ∃ r, F_X11_dye_0 x y σ = some r ∧ F_X12_dye_0 x y σ = some r := by
  obtain ⟨⟨K, w, q, m, ⟨hK, hS, hw, hq, hM, hwM, hqM, hd, hd2, hm⟩, -⟩, -⟩ := hI
  have h4 : kD K ≤ 4 := hK.2.1
  unfold F_X11_dye_0 F_X12_dye_0
  rw [hdyI hS.2.1 (by omega), idyM hM.2.1 (by omega), ob_s, if_bP, if_bP, iscI, if_bP, inL y 0 2 (p := 0) (q := 2) rfl rfl, if_bP]
  by_cases hx : 0 ≤ x.toInt ∧ x.toInt < kD K
  · rw [if_pos hx, if_pos hx]
    obtain ⟨d, hd', rfl⟩ := of_rng hx (by omega)
    by_cases hy : 0 ≤ y.toInt ∧ y.toInt < (3 : Nat)
    · rw [if_pos hy, if_pos (by omega)]
      obtain ⟨j, hj, rfl⟩ := of_rng hy (by decide)
      refine ⟨nI (kA K (3 * d + j)), ?_, ?_⟩
      · rw [adye hS hK hd' hj, ob_s]
      · rw [L11, L3, pk_mul, nI_add, nI_add, ck_t (inR_t (by omega) (by decide)), TN_nI (by omega), Nat.add_assoc, hM.2.2.2.2.1 _ (by omega)]
    · exact ⟨-1, by rw [if_neg hy], by rw [if_neg (by omega)]⟩
  · exact ⟨-1, by rw [if_neg hx], by rw [if_neg hx]⟩
theorem step_stencil {σ : gS} (hI : Inv σ) (x : Int32) : ∃ r, F_X11_stencil_0 x σ = some r ∧ F_X12_stencil_0 x σ = some r := by
  obtain ⟨⟨K, w, q, m, ⟨hK, hS, hw, hq, hM, hwM, hqM, hd, hd2, hm⟩, -⟩, -⟩ := hI
  have h3 : kT K ≤ 3 := hK.2.2.1
  unfold F_X11_stencil_0 F_X12_stencil_0
  rw [hstI hS.2.2.1 (by omega), if_bP, hM.2.2.1, inM, t64, t64, pm1 (by omega), if_bP, show (0 : Int64).toInt = 0 from rfl]
  by_cases hx : 0 ≤ x.toInt ∧ x.toInt < kT K
  · rw [if_pos hx, if_pos (by omega)]
    obtain ⟨t, ht, rfl⟩ := of_rng hx (by omega)
    refine ⟨nI (kN K t), ?_, ?_⟩
    · rw [ck_t (inR_t (by omega) (by decide)), TN_nI (by omega), hS.2.2.2.2.2 t ht]
    · rw [L23, nI_add, ck_t (inR_t (by omega) (by decide)), TN_nI (by omega), hM.2.2.2.2.2 t ht]
  · exact ⟨-1, by rw [if_neg hx], by rw [if_neg (by omega)]⟩
theorem step_takes {σ : gS} (hI : Inv σ) (x y z : Int32) : ∃ r, F_X11_takes_0 x y z σ = some r ∧ F_X12_takes_0 x y z σ = some r := by
  obtain ⟨⟨K, w, q, m, ⟨hK, hS, hw, hq, hM, hwM, hqM, hd, hd2, hm⟩, -⟩, -⟩ := hI
  have h8 : kS K ≤ 8 := hK.1
  have h4 : kD K ≤ 4 := hK.2.1
  unfold F_X11_takes_0 F_X12_takes_0
  rw [hsqI hS.1 h8, isqM hM.1 h8, ob_s, if_bP, if_bP, hdyI hS.2.1 (by omega), if_bP, iscI, if_bP, idyM hM.2.1 (by omega), ob_s, if_bP, inL z 0 2 (p := 0) (q := 2) rfl rfl, if_bP]
  by_cases hx : 0 ≤ x.toInt ∧ x.toInt < kS K
  · rw [if_pos hx, if_pos hx]
    obtain ⟨i, hi, rfl⟩ := of_rng hx (by omega)
    by_cases hy : 0 ≤ y.toInt ∧ y.toInt < kD K
    · rw [if_pos hy, if_pos hy]
      obtain ⟨d, hd', rfl⟩ := of_rng hy (by omega)
      by_cases hz : 0 ≤ z.toInt ∧ z.toInt < (3 : Nat)
      · rw [if_pos hz, if_pos (by omega)]
        obtain ⟨j, hj, rfl⟩ := of_rng hz (by decide)
        obtain ⟨g1, g2, g3, g4, g5⟩ := hqM i hi
        have hc : cp (q i) j ≤ 9 := by unfold cp; obtain ⟨h1, h2, h3, h4⟩ := g5; split <;> (try split) <;> omega
        refine ⟨nI (if (q i).2.2.2 = 0 then gnN (kK K i) (kA K (3 * d + j)) (cp (q i) j) else 0), ?_, ?_⟩
        · rw [ck_t (inR_t (by omega) (by decide)), TN_nI (by omega), (hq i hi).1, bd_e, waxI g5]
          have := g5.2.2.2
          by_cases hw0 : (q i).2.2.2 = 0
          · rw [if_pos (by rw [hw0]; decide), if_pos hw0, gainI hS hK hi hd' hj g5, ob_s]
          · rw [if_neg (by rw [L0]; exact nI_ge (by omega) (by omega)), if_neg hw0]; rfl
        · rw [takenOnM hM hK hi hd' hj (hqM.c hi hj) hc g4 g5.2.2.2, ob_s]
      · exact ⟨-1, by rw [if_neg hz], by rw [if_neg (by omega)]⟩
    · exact ⟨-1, by rw [if_neg hy], by rw [if_neg hy]⟩
  · exact ⟨-1, by rw [if_neg hx], by rw [if_neg hx]⟩
theorem step_count {σ : gS} (hI : Inv σ) (x : Int32) : ∃ r, F_X11_count_0 x σ = some r ∧ F_X12_count_0 x σ = some r := by
  obtain ⟨⟨K, w, q, m, ⟨hK, hS, hw, hq, hM, hwM, hqM, hd, hd2, hm⟩, ⟨h, nx, p0, p1, p2, p3, p4, p5, -⟩⟩, -, ⟨n, t1, t2, t3, -⟩, -⟩ := hI
  have h8 : kS K ≤ 8 := hK.1
  unfold F_X11_count_0 F_X12_count_0 F_X12_count_52
  by_cases hy : 0 ≤ x.toInt ∧ x.toInt < (9 : Nat)
  · obtain ⟨j, hj, rfl⟩ := of_rng hy (by decide)
    have hj' : j = 0 ∨ j = 1 ∨ j = 2 ∨ j = 3 ∨ j = 4 ∨ j = 5 ∨ j = 6 ∨ j = 7 ∨ j = 8 := by omega
    rcases hj' with rfl | rfl | rfl | rfl | rfl | rfl | rfl | rfl | rfl
    · refine ⟨nI (kS K), ?_, ?_⟩
      · rw [if_pos (by decide), hS.1]
      · rw [if_pos (by decide), ck_t (by decide)]; exact congrArg some hM.1
    · refine ⟨nI (kD K), ?_, ?_⟩
      · rw [if_neg (by decide), if_pos (by decide), hS.2.1]
      · rw [if_neg (by decide), if_pos (by decide), ck_t (by decide)]; exact congrArg some hM.2.1
    · refine ⟨nI (kT K), ?_, ?_⟩
      · rw [if_neg (by decide), if_neg (by decide), if_pos (by decide), hS.2.2.1]
      · rw [if_neg (by decide), if_neg (by decide), if_pos (by decide), ck_t (by decide)]; exact congrArg some hM.2.2.1
    · refine ⟨σ.1 10 3, ?_, ?_⟩
      · rw [if_neg (by decide), if_neg (by decide), if_neg (by decide), if_pos (by decide)]
      · rw [if_neg (by decide), if_neg (by decide), if_neg (by decide), if_pos (by decide), hd2, hd]
    · refine ⟨nI (rsN (kS K) (fun i => decide (hueQ (q i) = w i))), ?_, ?_⟩
      · rw [if_neg (by decide), if_neg (by decide), if_neg (by decide), if_neg (by decide), if_pos (by decide), rightSetI hS hK hw hq, ob_s]
      · rw [if_neg (by decide), if_neg (by decide), if_neg (by decide), if_neg (by decide), if_pos (by decide), rightOnM hM hK hwM hqM, ob_s]
    · refine ⟨nI (rsN (kS K) (fun i => decide (0 < (q i).2.2.2))), ?_, ?_⟩
      · rw [if_neg (by decide), if_neg (by decide), if_neg (by decide), if_neg (by decide), if_neg (by decide), if_pos (by decide), waxedI hS hK hq, ob_s]
      · rw [if_neg (by decide), if_neg (by decide), if_neg (by decide), if_neg (by decide), if_neg (by decide), if_pos (by decide), waxedM hM hK hqM]
    · refine ⟨nI (smN (kS K) (fun i => dkQ (q i))), ?_, ?_⟩
      · rw [if_neg (by decide), if_neg (by decide), if_neg (by decide), if_neg (by decide), if_neg (by decide), if_neg (by decide), if_pos (by decide), darkOfI hS hK hq, ob_s]
      · rw [if_neg (by decide), if_neg (by decide), if_neg (by decide), if_neg (by decide), if_neg (by decide), if_neg (by decide), if_pos (by decide), darkAllM hM hK hqM, ob_s]
    · refine ⟨nI h, ?_, ?_⟩
      · rw [if_neg (by decide), if_neg (by decide), if_neg (by decide), if_neg (by decide), if_neg (by decide), if_neg (by decide), if_neg (by decide), if_pos (by decide), p3]
      · rw [if_neg (by decide), if_neg (by decide), if_neg (by decide), if_neg (by decide), if_neg (by decide), if_neg (by decide), if_neg (by decide), if_pos (by decide), p5]
    · refine ⟨nI n, ?_, ?_⟩
      · rw [if_neg (by decide), if_neg (by decide), if_neg (by decide), if_neg (by decide), if_neg (by decide), if_neg (by decide), if_neg (by decide), if_neg (by decide), if_pos (by decide), t2]
      · rw [if_neg (by decide), if_neg (by decide), if_neg (by decide), if_neg (by decide), if_neg (by decide), if_neg (by decide), if_neg (by decide), if_neg (by decide), if_pos (by decide), t3]
  · have n0 : ∀ k : Nat, k < 9 → ¬ x = nI k := fun k hk => ne_lit (by omega) (by omega)
    refine ⟨-1, ?_, ?_⟩
    · rw [if_neg (show ¬ x = 0 from n0 0 (by decide)), if_neg (show ¬ x = 1 from n0 1 (by decide)), if_neg (show ¬ x = 2 from n0 2 (by decide)), if_neg (show ¬ x = 3 from n0 3 (by decide)), if_neg (show ¬ x = 4 from n0 4 (by decide)), if_neg (show ¬ x = 5 from n0 5 (by decide)), if_neg (show ¬ x = 6 from n0 6 (by decide)), if_neg (show ¬ x = 7 from n0 7 (by decide)), if_neg (show ¬ x = 8 from n0 8 (by decide))]
    · rw [if_neg (show ¬ x = 0 from n0 0 (by decide)), if_neg (show ¬ x = 1 from n0 1 (by decide)), if_neg (show ¬ x = 2 from n0 2 (by decide)), if_neg (show ¬ x = 3 from n0 3 (by decide)), if_neg (show ¬ x = 4 from n0 4 (by decide)), if_neg (show ¬ x = 5 from n0 5 (by decide)), if_neg (show ¬ x = 6 from n0 6 (by decide)), if_neg (show ¬ x = 7 from n0 7 (by decide)), if_neg (show ¬ x = 8 from n0 8 (by decide))]
