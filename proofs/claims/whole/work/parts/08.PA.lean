/-! PURE A: image, restore -/
theorem becomeI {σ : gS} {c0 c1 : Nat} (h : c1 + 5 < c0 ∨ c0 + 5 < c1) : ∃ σ1, F_X2_become_0 c0 c1 σ = some σ1 ∧ σ1.2 = σ.2 ∧ (∀ c, c < c0 ∨ c0 + 5 < c → σ1.1 c = σ.1 c) ∧ (∀ j, j < 4 → σ1.1 c0 j = σ.1 c1 j) ∧ (∀ i, i < 8 → σ1.1 (c0 + 1) i = σ.1 (c1 + 1) i) ∧ (∀ i, i < 8 → σ1.1 (c0 + 2) i = σ.1 (c1 + 2) i) ∧ (∀ i, i < 8 → σ1.1 (c0 + 3) i = σ.1 (c1 + 3) i) ∧ (∀ i, i < 12 → σ1.1 (c0 + 4) i = σ.1 (c1 + 4) i) ∧ (∀ i, i < 3 → σ1.1 (c0 + 5) i = σ.1 (c1 + 5) i) := by
  have hne : c1 ≠ c0 := by omega
  have z0 : (0 : Int32).toNatClampNeg = 0 := rfl
  have z8 : (8 : Int32).toNatClampNeg = 8 := rfl
  have z12 : (12 : Int32).toNatClampNeg = 12 := rfl
  have z3 : (3 : Int32).toNatClampNeg = 3 := rfl
  have cpy : ∀ (f g : Nat → Int32) (n i : Nat), i < n → va_cpy f g 0 0 n i = f i := by
    intro f g n i hi
    unfold va_cpy; rw [if_pos (by omega), show 0 + (i - 0) = i by omega]
  refine ⟨cI (cI (cI (cI (cI (sI (sI (sI (sI σ c0 0 (σ.1 c1 0)) c0 1 (σ.1 c1 1)) c0 2 (σ.1 c1 2)) c0 3 (σ.1 c1 3)) (c1 + 1) 0 (c0 + 1) 0 8) (c1 + 2) 0 (c0 + 2) 0 8) (c1 + 3) 0 (c0 + 3) 0 8) (c1 + 4) 0 (c0 + 4) 0 12) (c1 + 5) 0 (c0 + 5) 0 3, ?_, ?_⟩
  · unfold F_X2_become_0
    simp only [bd_e]
    rw [ck_t (by decide), ck_t (by decide), ck_t (by decide), ck_t (by decide), ck_t (by decide)]
    rw [sI_ne hne, sI_ne hne, sI_ne hne, sI_ne hne, sI_ne hne, sI_ne hne]
  · refine ⟨rfl, fun c hc => ?_, fun j hj => ?_, fun i hi => ?_, fun i hi => ?_, fun i hi => ?_, fun i hi => ?_, fun i hi => ?_⟩
    · rw [cI_ne (by omega), cI_ne (by omega), cI_ne (by omega), cI_ne (by omega), cI_ne (by omega), sI_ne (by omega), sI_ne (by omega), sI_ne (by omega), sI_ne (by omega)]
    · rw [cI_ne (by omega), cI_ne (by omega), cI_ne (by omega), cI_ne (by omega), cI_ne (by omega)]
      have hj' : j = 0 ∨ j = 1 ∨ j = 2 ∨ j = 3 := by omega
      rcases hj' with rfl | rfl | rfl | rfl
      · rw [sI_o (by decide), sI_o (by decide), sI_o (by decide), sI_at]
      · rw [sI_o (by decide), sI_o (by decide), sI_at]
      · rw [sI_o (by decide), sI_at]
      · rw [sI_at]
    · rw [cI_ne (by omega), cI_ne (by omega), cI_ne (by omega), cI_ne (by omega), cI_eq, z0, z8, cpy _ _ _ _ hi, sI_ne (by omega), sI_ne (by omega), sI_ne (by omega), sI_ne (by omega)]
    · rw [cI_ne (by omega), cI_ne (by omega), cI_ne (by omega), cI_eq, z0, z8, cpy _ _ _ _ hi, cI_ne (by omega), sI_ne (by omega), sI_ne (by omega), sI_ne (by omega), sI_ne (by omega)]
    · rw [cI_ne (by omega), cI_ne (by omega), cI_eq, z0, z8, cpy _ _ _ _ hi, cI_ne (by omega), cI_ne (by omega), sI_ne (by omega), sI_ne (by omega), sI_ne (by omega), sI_ne (by omega)]
    · rw [cI_ne (by omega), cI_eq, z0, z12, cpy _ _ _ _ hi, cI_ne (by omega), cI_ne (by omega), cI_ne (by omega), sI_ne (by omega), sI_ne (by omega), sI_ne (by omega), sI_ne (by omega)]
    · rw [cI_eq, z0, z3, cpy _ _ _ _ hi, cI_ne (by omega), cI_ne (by omega), cI_ne (by omega), cI_ne (by omega), sI_ne (by omega), sI_ne (by omega), sI_ne (by omega), sI_ne (by omega)]
theorem SC.cpy {σ σ1 : gS} {c0 c1 : Nat} {K : CS} (hS : SC c1 σ K) (hK : okK K) (a1 : ∀ j, j < 4 → σ1.1 c0 j = σ.1 c1 j) (a2 : ∀ i, i < 8 → σ1.1 (c0 + 1) i = σ.1 (c1 + 1) i) (a3 : ∀ i, i < 12 → σ1.1 (c0 + 4) i = σ.1 (c1 + 4) i) (a4 : ∀ i, i < 3 → σ1.1 (c0 + 5) i = σ.1 (c1 + 5) i) : SC c0 σ1 K := by
  obtain ⟨k1, k2, k3, -⟩ := hK
  obtain ⟨h1, h2, h3, h4, h5, h6⟩ := hS
  exact ⟨by rw [a1 0 (by decide)]; exact h1, by rw [a1 1 (by decide)]; exact h2, by rw [a1 2 (by decide)]; exact h3, fun i hi => by rw [a2 i (by omega)]; exact h4 i hi, fun i hi => by rw [a3 i (by omega)]; exact h5 i hi, fun i hi => by rw [a4 i (by omega)]; exact h6 i hi⟩
theorem SM.congr {f g : Nat → Int32} {K : CS} (h : SM f K) (hK : okK K) (e : ∀ k, k < 26 → g k = f k) : SM g K := by
  obtain ⟨k1, k2, k3, -⟩ := hK
  obtain ⟨h1, h2, h3, h4, h5, h6⟩ := h
  exact ⟨by rw [e 0 (by decide)]; exact h1, by rw [e 1 (by decide)]; exact h2, by rw [e 2 (by decide)]; exact h3, fun i hi => by rw [e _ (by omega)]; exact h4 i hi, fun i hi => by rw [e _ (by omega)]; exact h5 i hi, fun i hi => by rw [e _ (by omega)]; exact h6 i hi⟩
theorem WM.congr {f g : Nat → Int32} {n : Nat} {w : Nat → Nat} (h : WM f n w) (hn : n ≤ 8) (e : ∀ k, k < 40 → g k = f k) : WM g n w := fun i hi => by rw [e _ (by omega)]; exact h i hi
theorem RQ.congr {f g : Nat → Int32} {n : Nat} {q : Nat → QD} (h : RQ f n q) (hn : n ≤ 8) (e : ∀ k, k < 8 → g k = f k) : RQ g n q := fun i hi => by rw [e _ (by omega)]; exact h i hi
theorem RW.congr {f g : Nat → Int32} {n : Nat} {w : Nat → Nat} (h : RW f n w) (hn : n ≤ 8) (e : ∀ k, k < 8 → g k = f k) : RW g n w := fun i hi => by rw [e _ (by omega)]; exact h i hi
theorem cpy_in {f g : Nat → Int32} {i j n k : Nat} (h : k < n) : va_cpy f g i j n (j + k) = f (i + k) := by
  unfold va_cpy; rw [if_pos (by omega), show i + (j + k - j) = i + k by omega]
theorem cpy_out {f g : Nat → Int32} {i j n k : Nat} (h : k < j ∨ j + n ≤ k) : va_cpy f g i j n k = g k := by
  unfold va_cpy; rw [if_neg (by omega)]
theorem step_image {σ : gS} (hI : Inv σ) (x : Int32) : ∃ r σ1 σ2, F_X11_image_0 x σ = some (r, σ1) ∧ F_X12_image_0 x σ1 = some (r, σ2) ∧ Inv σ2 := by
  have hI0 := hI
  obtain ⟨⟨K, w, q, m, hC, hP⟩, hkp, hT, hR, hs⟩ := hI
  obtain ⟨hK, hS, hw, hq, hM, hwM, hqM, hd1, hd2, hm⟩ := id hC
  have h8 : kS K ≤ 8 := hK.1
  unfold F_X11_image_0 F_X12_image_0
  by_cases hx : 0 ≤ x.toInt ∧ x.toInt < (2 : Nat)
  · obtain ⟨k, hk, rfl⟩ := of_rng hx (by decide)
    rw [if_neg (fun z => by rw [lt0] at z; omega), if_pos (by rw [L2]; exact nI_lt hk (by decide)), stI hS.1 (by omega), if_bP]
    by_cases hz : 0 < kS K
    · have hr : inR (nI k) 2 := inR_t hk (by decide)
      rw [if_pos hz]
      simp only [ck_t hr]
      rw [TN_nI (by omega)]
      obtain ⟨σ1, e1, e2, e3, e4, e5, e6, e7, e8, e9⟩ := becomeI (σ := σ) (c0 := 43 + 6 * k) (c1 := 10) (by omega)
      rw [e1, ob_s]
      have c10 : σ1.1 10 = σ.1 10 := e3 10 (by omega)
      have c82 : σ1.1 82 = σ.1 82 := e3 82 (by omega)
      have c83 : σ1.1 83 = σ.1 83 := e3 83 (by omega)
      have c86 : σ1.1 86 = σ.1 86 := e3 86 (by omega)
      have hc1 : F_X12_copies_0 83 89 0 (nI (67 * k)) 26 σ1 = _ := copiesM (σ := σ1) (c0 := 83) (c2 := 89) (i := 0) (j := 67 * k) (n := 26) (by decide) (by decide) (by show 67 * k + 26 ≤ 134; omega) (by decide) (by decide) (by decide)
      let τ1 := s1 σ1 89 (va_cpy (σ1.1 83) (σ1.1 89) 0 (67 * k) 26)
      have hc2 : F_X12_copies_0 86 89 0 (nI (67 * k + 26)) 40 τ1 = _ := copiesM (σ := τ1) (c0 := 86) (c2 := 89) (i := 0) (j := 67 * k + 26) (n := 40) (by decide) (by decide) (by show 67 * k + 26 + 40 ≤ 134; omega) (by decide) (by decide) (by decide)
      let τ2 := s1 τ1 89 (va_cpy (τ1.1 86) (τ1.1 89) 0 (67 * k + 26) 40)
      let τ3 := sI τ2 89 (67 * k + 66) (nI m)
      let τ4 := sI τ3 90 k 1
      have k4 : ∀ c, c ≠ 89 → c ≠ 90 → τ4.1 c = σ1.1 c := by
        intro c d1 d2
        show (sI (sI (s1 (s1 σ1 89 _) 89 _) 89 _ _) 90 k 1).1 c = _
        rw [sI_ne d2, sI_ne d1, s1_ne d1, s1_ne d1]
      have t86 : τ1.1 86 = σ.1 86 := by show (s1 σ1 89 _).1 86 = _; rw [s1_ne (by decide), c86]
      have r89 : τ4.1 89 = upd (va_cpy (σ.1 86) (va_cpy (σ.1 83) (σ1.1 89) 0 (67 * k) 26) 0 (67 * k + 26) 40) (67 * k + 66) (nI m) := by
        show (sI (sI τ2 89 _ _) 90 k 1).1 89 = _
        rw [sI_ne (by decide), sI_eq]
        show upd ((s1 τ1 89 _).1 89) _ _ = _
        rw [s1_eq, t86]
        show upd (va_cpy _ ((s1 σ1 89 _).1 89) _ _ _) _ _ = _
        rw [s1_eq, c83]
      have c89 : σ1.1 89 = σ.1 89 := e3 89 (by omega)
      have kk : ∀ c, (c < 43 + 6 * k ∨ 43 + 6 * k + 5 < c) → c ≠ 89 → c ≠ 90 → τ4.1 c = σ.1 c := fun c d1 d2 d3 => by rw [k4 c d2 d3, e3 c d1]
      refine ⟨nI m, σ1, τ4, by rw [c10, hd1], ?_, ⟨⟨K, w, q, m, hC.keep (fun c hc => kk c (by omega) (by omega) (by omega)) (by rw [kk 82 (by omega) (by decide) (by decide)]), hP.keep (fun c hc => kk c (by omega) (by omega) (by omega)) (by rw [kk 82 (by omega) (by decide) (by decide)])⟩, fun k' hk' => ?_, hT.keep (by rw [kk 1 (by omega) (by decide) (by decide)]) (kk 2 (by omega) (by decide) (by decide)) (kk 91 (by omega) (by decide) (by decide)) (by rw [kk 82 (by omega) (by decide) (by decide)]), hR.keep (kk 7 (by omega) (by decide) (by decide)) (by rw [kk 4 (by omega) (by decide) (by decide)]), fun s hs' => (hs s hs').keep hs' (fun c hc => kk c (by omega) (by omega) (by omega)) (fun c hc => by show σ1.2 c = _; rw [e2])⟩⟩
      · rw [inL _ 0 1 (p := 0) (q := 1) rfl rfl, if_bP, if_pos (by omega), c83, hM.1, if_neg (nI_ne0 hz (by omega)), show (67 : Int32) * nI k = nI (67 * k) from pk_mul 67 k, hc1, ob_s, show nI (67 * k) + 26 = nI (67 * k + 26) from nI_add _ 26, hc2, ob_s, show nI (67 * k + 26) + 40 = nI (67 * k + 26 + 40) from nI_add _ 40, ck_t (inR_t (by omega) (by decide)), TN_nI (by omega)]
        have e5' : τ2.1 82 5 = nI m := by
          show (s1 (s1 σ1 89 _) 89 _).1 82 5 = _
          rw [s1_ne (by decide), s1_ne (by decide), c82, hd2]
        show bd (sI τ2 89 (67 * k + 26 + 40) (τ2.1 82 5)) _ = _
        rw [e5', bd_e, bd_e]
        have e6' : τ4.1 82 5 = nI m := by rw [k4 82 (by decide) (by decide), c82, hd2]
        show some (τ4.1 82 5, τ4) = _
        rw [e6']
      · by_cases hkk : k' = k
        · subst hkk
          right
          refine ⟨sI_at _ _ _ _, K, w, q, m, hK, hz, ?_, ?_, ?_, ?_, ?_, ?_, ?_, ?_, hm⟩
          · exact SC.cpy (σ := σ) (c1 := 10) hS hK (fun j hj => by rw [k4 _ (by omega) (by omega)]; exact e4 j hj) (fun j hj => by rw [k4 _ (by omega) (by omega)]; exact e5 j hj) (fun j hj => by rw [k4 _ (by omega) (by omega)]; exact e8 j hj) (fun j hj => by rw [k4 _ (by omega) (by omega)]; exact e9 j hj)
          · rw [k4 _ (by omega) (by omega)]; exact hw.congr h8 (fun j hj => e6 j hj)
          · rw [k4 _ (by omega) (by omega)]; exact hq.congr h8 (fun j hj => e7 j hj)
          · refine hM.congr hK (fun j hj => ?_)
            show τ4.1 89 (67 * k' + j) = _
            rw [r89, upd_ne (by omega), cpy_out (by omega), cpy_in hj, Nat.zero_add]
          · refine hwM.congr h8 (fun j hj => ?_)
            show τ4.1 89 (67 * k' + 26 + j) = _
            rw [r89, upd_ne (by omega), cpy_in hj, Nat.zero_add]
          · refine hqM.congr h8 (fun j hj => ?_)
            show τ4.1 89 (67 * k' + 26 + j) = _
            rw [r89, upd_ne (by omega), cpy_in (by omega), Nat.zero_add]
          · rw [k4 _ (by omega) (by omega), e4 3 (by decide)]; exact hd1
          · rw [r89, upd_eq]
        · -- the other image
          have hold : ∀ c, (43 + 6 * k' ≤ c ∧ c ≤ 43 + 6 * k' + 5) → τ4.1 c = σ.1 c := fun c hc => kk c (by omega) (by omega) (by omega)
          have h90 : τ4.1 90 k' = σ.1 90 k' := by
            show (sI τ3 90 k 1).1 90 k' = _
            rw [sI_o hkk]
            show (sI (s1 (s1 σ1 89 _) 89 _) 89 _ _).1 90 k' = _
            rw [sI_ne (by decide), s1_ne (by decide), s1_ne (by decide), e3 90 (by omega)]
          have h89 : ∀ j, 67 * k' ≤ j → j < 67 * k' + 67 → τ4.1 89 j = σ.1 89 j := by
            intro j j1 j2
            rw [r89, upd_ne (by omega), cpy_out (by omega), cpy_out (by omega), c89]
          rcases hkp k' hk' with ⟨g1, g2⟩ | ⟨g1, K', w', q', m', b1, b2, b3, b4, b5, b6, b7, b8, b9, b10, b11⟩
          · left
            exact ⟨by rw [hold _ (by omega)]; exact g1, by rw [h90]; exact g2⟩
          · right
            have h8' : kS K' ≤ 8 := b1.1
            refine ⟨by rw [h90]; exact g1, K', w', q', m', b1, b2, b3.keep (hold _ (by omega)) (hold _ (by omega)) (hold _ (by omega)) (hold _ (by omega)), ?_, ?_, ?_, ?_, ?_, ?_, ?_, b11⟩
            · rw [hold _ (by omega)]; exact b4
            · rw [hold _ (by omega)]; exact b5
            · exact b6.congr b1 (fun j hj => h89 _ (by omega) (by omega))
            · exact b7.congr h8' (fun j hj => h89 _ (by omega) (by omega))
            · exact b8.congr h8' (fun j hj => h89 _ (by omega) (by omega))
            · rw [hold _ (by omega)]; exact b9
            · rw [h89 _ (by omega) (by omega)]; exact b10
    · rw [if_neg hz]
      refine ⟨-2, σ, σ, rfl, ?_, hI0⟩
      rw [inL _ 0 1 (p := 0) (q := 1) rfl rfl, if_bP, if_pos (by omega), hM.1, if_pos (by rw [show kS K = 0 by omega]; rfl)]
  · refine ⟨-1, σ, σ, ?_, ?_, hI0⟩
    · by_cases h0 : x < 0
      · rw [if_pos h0]
      · rw [if_neg h0, if_neg (fun z => ?_)]
        rw [lt0] at h0
        rw [Int32.lt_iff_toInt_lt, show (2 : Int32).toInt = 2 from rfl] at z
        omega
    · rw [inL _ 0 1 (p := 0) (q := 1) rfl rfl, if_bP, if_neg (by omega)]
theorem step_restore {σ : gS} (hI : Inv σ) (x : Int32) : ∃ r σ1 σ2, F_X11_restore_0 x σ = some (r, σ1) ∧ F_X12_restore_0 x σ1 = some (r, σ2) ∧ Inv σ2 := by
  have hI0 := hI
  obtain ⟨⟨K0, w0, q0, m0, hC, hP⟩, hkp, hT, hR, hs⟩ := hI
  obtain ⟨h, nx, h0, h1, h2, h3, h4, h5, H, hH⟩ := hP
  unfold F_X11_restore_0 F_X12_restore_0
  by_cases hx : 0 ≤ x.toInt ∧ x.toInt < (2 : Nat)
  · obtain ⟨k, hk, rfl⟩ := of_rng hx (by decide)
    have hr : inR (nI k) 2 := inR_t hk (by decide)
    rw [if_neg (fun z => by rw [lt0] at z; omega), if_pos (by rw [L2]; exact nI_lt hk (by decide))]
    simp only [ck_t hr]
    rw [TN_nI (by omega)]
    rcases hkp k hk with ⟨g1, g2⟩ | ⟨g1, K, w, q, m, hK, hz, b3, b4, b5, b6, b7, b8, b9, b10, b11⟩
    · rw [stI (n := 0) g1 (by decide), if_bP, if_neg (by decide)]
      refine ⟨-2, σ, σ, rfl, ?_, hI0⟩
      rw [inL _ 0 1 (p := 0) (q := 1) rfl rfl, if_bP, if_pos (by omega), g2, if_pos rfl]
    · have h8 : kS K ≤ 8 := hK.1
      rw [stI b3.1 (by omega), if_bP, if_pos hz]
      obtain ⟨σ1, e1, e2, e3, e4, e5, e6, e7, e8, e9⟩ := becomeI (σ := σ) (c0 := 10) (c1 := 43 + 6 * k) (by omega)
      rw [e1, ob_s]
      unfold F_X4_forget_0
      rw [bd_e, ob_s]
      let τ0 := sI σ1 16 0 0
      have k0 : ∀ c, (c < 10 ∨ 15 < c) → c ≠ 16 → τ0.1 c = σ.1 c := fun c d1 d2 => by
        show (sI σ1 16 0 0).1 c = _
        rw [sI_ne d2, e3 c (by omega)]
      have hc1 : F_X12_copies_0 89 83 (nI (67 * k)) 0 26 τ0 = _ := copiesM (σ := τ0) (c0 := 89) (c2 := 83) (i := 67 * k) (j := 0) (n := 26) (by decide) (by show 67 * k + 26 ≤ 134; omega) (by decide) (by decide) (by decide) (by decide)
      let τ1 := s1 τ0 83 (va_cpy (τ0.1 89) (τ0.1 83) (67 * k) 0 26)
      have hc2 : F_X12_copies_0 89 86 (nI (67 * k + 26)) 0 40 τ1 = _ := copiesM (σ := τ1) (c0 := 89) (c2 := 86) (i := 67 * k + 26) (j := 0) (n := 40) (by decide) (by show 67 * k + 26 + 40 ≤ 134; omega) (by decide) (by decide) (by decide) (by decide)
      let τ2 := s1 τ1 86 (va_cpy (τ1.1 89) (τ1.1 86) (67 * k + 26) 0 40)
      let τ3 := sI τ2 82 5 (nI m)
      let τ4 := sI τ3 82 7 0
      have k4 : ∀ c, c ≠ 82 → c ≠ 83 → c ≠ 86 → τ4.1 c = τ0.1 c := by
        intro c d1 d2 d3
        show (sI (sI (s1 (s1 τ0 83 _) 86 _) 82 5 _) 82 7 0).1 c = _
        rw [sI_ne d1, sI_ne d1, s1_ne d3, s1_ne d2]
      have r89 : τ1.1 89 = σ.1 89 := by show (s1 τ0 83 _).1 89 = _; rw [s1_ne (by decide), k0 89 (by omega) (by decide)]
      have r83 : τ4.1 83 = va_cpy (σ.1 89) (σ.1 83) (67 * k) 0 26 := by
        show (sI (sI (s1 (s1 τ0 83 _) 86 _) 82 5 _) 82 7 0).1 83 = _
        rw [sI_ne (by decide), sI_ne (by decide), s1_ne (by decide), s1_eq, k0 89 (by omega) (by decide), k0 83 (by omega) (by decide)]
      have r86 : τ4.1 86 = va_cpy (σ.1 89) (τ1.1 86) (67 * k + 26) 0 40 := by
        show (sI (sI (s1 τ1 86 _) 82 5 _) 82 7 0).1 86 = _
        rw [sI_ne (by decide), sI_ne (by decide), s1_eq, r89]
      have cc : ∀ {f g : Nat → Int32} {i n j : Nat}, j < n → va_cpy f g i 0 n j = f (i + j) := by
        intro f g i n j hj
        have := cpy_in (f := f) (g := g) (i := i) (j := 0) hj
        rw [Nat.zero_add] at this
        exact this
      have kk : ∀ c, (c < 10 ∨ 15 < c) → c ≠ 16 → c ≠ 82 → c ≠ 83 → c ≠ 86 → τ4.1 c = σ.1 c := fun c d1 d2 d3 d4 d5 => by rw [k4 c d3 d4 d5, k0 c d1 d2]
      have k82 : ∀ j, j ≠ 5 → j ≠ 7 → τ4.1 82 j = σ.1 82 j := by
        intro j j1 j2
        show (sI (sI (s1 (s1 τ0 83 _) 86 _) 82 5 _) 82 7 0).1 82 j = _
        rw [sI_o j2, sI_o j1, s1_ne (by decide), s1_ne (by decide), k0 82 (by omega) (by decide)]
      have kc : ∀ c, 10 ≤ c → c ≤ 15 → τ4.1 c = σ1.1 c := by
        intro c d1 d2
        rw [k4 c (by omega) (by omega) (by omega)]
        show (sI σ1 16 0 0).1 c = _
        rw [sI_ne (by omega)]
      have hd10 : τ0.1 10 3 = nI m := by
        show (sI σ1 16 0 0).1 10 3 = _
        rw [sI_ne (by decide), e4 3 (by decide), b9]
      refine ⟨nI m, τ0, τ4, ?_, ?_, ⟨⟨K, w, q, m, ⟨hK, ?_, ?_, ?_, ?_, ?_, ?_, ?_, ?_, b11⟩, ⟨0, nx, Nat.zero_le _, by decide, h2, ?_, ?_, ?_, H, fun j hj => absurd hj (by omega)⟩⟩, fun k' hk' => (hkp k' hk').keep hk' (fun c hc => kk c (by omega) (by omega) (by omega) (by omega) (by omega)), hT.keep ?_ ?_ ?_ ?_, hR.keep ?_ ?_, fun s hs' => (hs s hs').keep hs' (fun c hc => kk c (by omega) (by omega) (by omega) (by omega) (by omega)) (fun c hc => by show σ1.2 c = _; rw [e2])⟩⟩
      · show some (τ0.1 10 3, τ0) = _
        rw [hd10]
      · rw [inL _ 0 1 (p := 0) (q := 1) rfl rfl, if_bP, if_pos (by omega), k0 90 (by omega) (by decide), g1, if_neg (by decide), show (67 : Int32) * nI k = nI (67 * k) from pk_mul 67 k, hc1, ob_s, show nI (67 * k) + 26 = nI (67 * k + 26) from nI_add _ 26, hc2, ob_s, show nI (67 * k + 26) + 40 = nI (67 * k + 26 + 40) from nI_add _ 40, ck_t (inR_t (by omega) (by decide)), TN_nI (by omega)]
        have e5' : τ2.1 89 (67 * k + 26 + 40) = nI m := by
          show (s1 τ1 86 _).1 89 _ = _
          rw [s1_ne (by decide), r89, show 67 * k + 26 + 40 = 67 * k + 66 by omega, b10]
        show bd (sI τ2 82 5 (τ2.1 89 (67 * k + 26 + 40))) _ = _
        rw [e5', bd_e, bd_e]
        have e6' : τ4.1 82 5 = nI m := by
          show (sI (sI τ2 82 5 (nI m)) 82 7 0).1 82 5 = _
          rw [sI_o (by decide), sI_at]
        show some (τ4.1 82 5, τ4) = _
        rw [e6']
      · exact SC.cpy (σ := σ) (c1 := 43 + 6 * k) b3 hK (fun j hj => by rw [kc _ (by omega) (by omega)]; exact e4 j hj) (fun j hj => by rw [kc _ (by omega) (by omega)]; exact e5 j hj) (fun j hj => by rw [kc _ (by omega) (by omega)]; exact e8 j hj) (fun j hj => by rw [kc _ (by omega) (by omega)]; exact e9 j hj)
      · rw [kc _ (by omega) (by omega)]; exact b4.congr h8 (fun j hj => e6 j hj)
      · rw [kc _ (by omega) (by omega)]; exact b5.congr h8 (fun j hj => e7 j hj)
      · exact b6.congr hK (fun j hj => by rw [r83, cc hj])
      · exact b7.congr h8 (fun j hj => by rw [r86, cc hj])
      · exact b8.congr h8 (fun j hj => by rw [r86, cc (by omega)])
      · rw [kc _ (by omega) (by omega), e4 3 (by decide)]; exact b9
      · show (sI (sI τ2 82 5 (nI m)) 82 7 0).1 82 5 = _
        rw [sI_o (by decide), sI_at]
      · rw [k4 16 (by decide) (by decide) (by decide)]; exact sI_at _ _ _ _
      · rw [k4 16 (by decide) (by decide) (by decide)]
        show (sI σ1 16 0 0).1 16 1 = _
        rw [sI_o (by decide), e3 16 (by omega)]; exact h4
      · exact sI_at _ _ _ _
      · rw [kk 1 (by omega) (by decide) (by decide) (by decide) (by decide)]
      · exact kk 2 (by omega) (by decide) (by decide) (by decide) (by decide)
      · exact kk 91 (by omega) (by decide) (by decide) (by decide) (by decide)
      · exact k82 11 (by decide) (by decide)
      · exact kk 7 (by omega) (by decide) (by decide) (by decide) (by decide)
      · rw [kk 4 (by omega) (by decide) (by decide) (by decide) (by decide)]
  · refine ⟨-1, σ, σ, ?_, ?_, hI0⟩
    · by_cases h0 : x < 0
      · rw [if_pos h0]
      · rw [if_neg h0, if_neg (fun z => ?_)]
        rw [lt0] at h0
        rw [Int32.lt_iff_toInt_lt, show (2 : Int32).toInt = 2 from rfl] at z
        omega
    · rw [inL _ 0 1 (p := 0) (q := 1) rfl rfl, if_bP, if_neg (by omega)]
