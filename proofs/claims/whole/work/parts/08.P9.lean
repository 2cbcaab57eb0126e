/-! PURE 9: does, undo, image, restore -/
theorem QM.congr {f g : Nat → Int32} {n : Nat} {q : Nat → QD} (h : QM f n q) (hn : n ≤ 8) (e : ∀ k, k < 32 → g k = f k) : QM g n q := by
  intro i hi
  obtain ⟨g1, g2, g3, g4, g5⟩ := h i hi
  exact ⟨by rw [e _ (by omega)]; exact g1, by rw [e _ (by omega)]; exact g2, by rw [e _ (by omega)]; exact g3, by rw [e _ (by omega)]; exact g4, g5⟩
theorem step_does {σ : gS} (hI : Inv σ) (x : Int32) : ∃ r σ1 σ2, F_X11_does_0 x σ = some (r, σ1) ∧ F_X12_does_0 x σ1 = some (r, σ2) ∧ Inv σ2 := by
  have hI0 := hI
  obtain ⟨⟨K, w, q, m, hC, ⟨h, nx, h0, h1, h2, h3, h4, h5, H, hH⟩⟩, hkp, hT, hR, hs⟩ := hI
  obtain ⟨hK, hS, hw, hq, hM, hwM, hqM, hd1, hd2, hm⟩ := id hC
  have h8 : kS K ≤ 8 := hK.1
  by_cases hx : okDi K x.toInt
  · obtain ⟨d, hd, hok⟩ := okD_of hK hx
    have hxd := of_toInt hd
    subst hxd
    have hx64 : okDi K (nI d).toInt64.toInt := by rw [t64]; exact hx
    by_cases hm9 : m < 9999
    · obtain ⟨σ1, e1, e2, e3, e4, e5, e6, e7, e8, e9⟩ := does_class hC hok hx.1 hm9 h1 h2 h3 h4
      have c83 : σ1.1 83 = σ.1 83 := e3 83 (by decide) (by decide) (by decide) (by omega)
      have c86 : σ1.1 86 = σ.1 86 := e3 86 (by decide) (by decide) (by decide) (by omega)
      have c82 : σ1.1 82 = σ.1 82 := e3 82 (by decide) (by decide) (by decide) (by omega)
      have c88 : σ1.1 88 = σ.1 88 := e3 88 (by decide) (by decide) (by decide) (by omega)
      have hM1 : SM (σ1.1 83) K := by rw [c83]; exact hM
      have start : F_X12_does_0 (nI d) σ1 = if h = 24 then F_X12_does_35 fu (nI d) 0 σ1 else F_X12_does_73 (nI d) σ1 := by
        unfold F_X12_does_0
        rw [idoM hM1 hK, ob_s, if_bP, if_pos hx64, c82, hd2, if_neg (by rw [show (9999 : Int32) = nI 9999 from rfl, nI_eq (by omega) (by decide)]; omega), h5, L24, if_nI_eq (by omega) (by decide)]
      -- the past of the reference before the new entry: u entries
      have mid : ∃ (τ : gS) (u : Nat) (H' : Nat → Nat → QD), F_X12_does_0 (nI d) σ1 = F_X12_does_73 (nI d) τ ∧ u < 24 ∧ u + 1 = min (h + 1) 24 ∧ τ.2 = σ1.2 ∧ (∀ c, c ≠ 82 → c ≠ 88 → τ.1 c = σ1.1 c) ∧ (∀ j, j ≠ 7 → τ.1 82 j = σ1.1 82 j) ∧ τ.1 82 7 = nI u ∧ ∀ j, j < u → RQ (σ1.1 (18 + ((nx + 1) % 24 + 24 - (u + 1) + j) % 24)) (kS K) (H' j) ∧ QM (fun k => τ.1 88 (32 * j + k)) (kS K) (H' j) := by
        by_cases h24 : h = 24
        · subst h24
          refine ⟨sI (s1 σ1 88 (shf (σ1.1 88) 736)) 82 7 (nI 23), 23, fun j => H (j + 1), ?_, by decide, by decide, rfl, fun c c1 c2 => ?_, fun j j1 => ?_, sI_at _ _ _ _, fun j hj => ?_⟩
          · rw [start, if_pos rfl, shiftM]
            show F_X12_does_73 (nI d) (sI (s1 σ1 88 _) 82 7 ((s1 σ1 88 _).1 82 7 - 1)) = _
            rw [s1_ne (by decide), c82, h5]
            rfl
          · rw [sI_ne c1, s1_ne c2]
          · rw [sI_o j1, s1_ne (by decide)]
          · obtain ⟨g1, g2⟩ := hH (j + 1) (by omega)
            refine ⟨?_, ?_⟩
            · rw [e3 _ (by omega) (by omega) (by omega) (by omega), show ((nx + 1) % 24 + 24 - (23 + 1) + j) % 24 = (nx + 24 - 24 + (j + 1)) % 24 by omega]
              exact g1
            · refine g2.congr h8 (fun k hk => ?_)
              show (sI (s1 σ1 88 _) 82 7 _).1 88 (32 * j + k) = σ.1 88 (32 * (j + 1) + k)
              rw [sI_ne (by decide), s1_eq, c88]
              unfold shf
              rw [if_pos (by omega), show 32 * j + k + 32 = 32 * (j + 1) + k by omega]
        · refine ⟨σ1, h, H, ?_, by omega, by omega, rfl, fun _ _ _ => rfl, fun _ _ => rfl, by rw [c82]; exact h5, fun j hj => ?_⟩
          · rw [start, if_neg h24]
          · obtain ⟨g1, g2⟩ := hH j hj
            refine ⟨?_, ?_⟩
            · rw [e3 _ (by omega) (by omega) (by omega) (by omega), show ((nx + 1) % 24 + 24 - (h + 1) + j) % 24 = (nx + 24 - h + j) % 24 by omega]
              exact g1
            · rw [c88]; exact g2
      obtain ⟨τ, u, H', m1, m2, m3, m4, m5, m6, m7, m8⟩ := mid
      obtain ⟨σ2, f1, f2, f3, f4, f5, f6, f7, f8, f9⟩ := does73 (σ := τ) (K := K) (w := w) (q := q) (m := m) (u := u) (d := d) hK (by rw [m5 83 (by decide) (by decide)]; exact hM1) (by rw [m5 86 (by decide) (by decide), c86]; exact hwM) (by rw [m5 86 (by decide) (by decide), c86]; exact hqM) (by rw [m6 5 (by decide), c82]; exact hd2) m7 m2 hok
      have t86 : τ.1 86 = σ.1 86 := by rw [m5 86 (by decide) (by decide), c86]
      have kk : ∀ c, c ≠ 10 → c ≠ 13 → c ≠ 16 → c ≠ 18 + nx → c ≠ 82 → c ≠ 86 → c ≠ 88 → σ2.1 c = σ.1 c := fun c c1 c2 c3 c4 c5 c6 c7 => by rw [f3 c c5 c6 c7, m5 c c5 c7, e3 c c1 c2 c3 c4]
      have k1 : ∀ c, c ≠ 82 → c ≠ 86 → c ≠ 88 → σ2.1 c = σ1.1 c := fun c c1 c2 c3 => by rw [f3 c c1 c2 c3, m5 c c1 c3]
      have k82 : ∀ j, j ≠ 5 → j ≠ 7 → σ2.1 82 j = σ.1 82 j := fun j j1 j2 => by rw [f4 j j1 j2, m6 j j2, c82]
      refine ⟨_, σ1, σ2, e1, by rw [m1, f1], ⟨⟨K, w, fun k => afQ K k d (q k), m + 1, ⟨hK, ?_, ?_, ?_, ?_, f8, f7, ?_, f5, by omega⟩, ⟨u + 1, (nx + 1) % 24, by omega, by omega, Nat.mod_lt _ (by decide), ?_, ?_, f6, fun j => if j < u then H' j else q, fun j hj => ?_⟩⟩, fun k hk => (hkp k hk).keep hk (fun c hc => kk c (by omega) (by omega) (by omega) (by omega) (by omega) (by omega) (by omega)), hT.keep ?_ ?_ ?_ ?_, hR.keep ?_ ?_, fun s hs' => (hs s hs').keep hs' (fun c hc => kk c (by omega) (by omega) (by omega) (by omega) (by omega) (by omega) (by omega)) (fun c hc => by rw [f2, m4, e2])⟩⟩
      · refine ⟨?_, ?_, ?_, ?_, ?_, ?_⟩
        · rw [k1 10 (by decide) (by decide) (by decide), e4 0 (by decide)]; exact hS.1
        · rw [k1 10 (by decide) (by decide) (by decide), e4 1 (by decide)]; exact hS.2.1
        · rw [k1 10 (by decide) (by decide) (by decide), e4 2 (by decide)]; exact hS.2.2.1
        · rw [kk (10 + 1) (by omega) (by omega) (by omega) (by omega) (by omega) (by omega) (by omega)]; exact hS.2.2.2.1
        · rw [kk (10 + 4) (by omega) (by omega) (by omega) (by omega) (by omega) (by omega) (by omega)]; exact hS.2.2.2.2.1
        · rw [kk (10 + 5) (by omega) (by omega) (by omega) (by omega) (by omega) (by omega) (by omega)]; exact hS.2.2.2.2.2
      · rw [kk 12 (by omega) (by omega) (by omega) (by omega) (by omega) (by omega) (by omega)]; exact hw
      · rw [k1 13 (by decide) (by decide) (by decide)]; exact e6
      · rw [kk 83 (by omega) (by omega) (by omega) (by omega) (by omega) (by omega) (by omega)]; exact hM
      · rw [k1 10 (by decide) (by decide) (by decide)]; exact e5
      · rw [k1 16 (by decide) (by decide) (by decide), e7, m3]
      · rw [k1 16 (by decide) (by decide) (by decide)]; exact e8
      · by_cases hju : j < u
        · simp only [hju, if_true]
          obtain ⟨g1, g2⟩ := m8 j hju
          refine ⟨?_, ?_⟩
          · rw [k1 _ (by omega) (by omega) (by omega)]; exact g1
          · refine g2.congr h8 (fun k hk => ?_)
            show σ2.1 88 (32 * j + k) = τ.1 88 (32 * j + k)
            rw [f9]; unfold va_cpy; rw [if_neg (by omega)]
        · simp only [hju, if_false]
          have hj' : j = u := by omega
          subst hj'
          refine ⟨?_, ?_⟩
          · rw [k1 _ (by omega) (by omega) (by omega), show ((nx + 1) % 24 + 24 - (j + 1) + j) % 24 = nx by omega]; exact e9
          · refine hqM.congr h8 (fun k hk => ?_)
            show σ2.1 88 (32 * j + k) = σ.1 86 k
            rw [f9, t86]; unfold va_cpy; rw [if_pos (by omega), show 0 + (32 * j + k - 32 * j) = k by omega]
      · rw [kk 1 (by omega) (by omega) (by omega) (by omega) (by omega) (by omega) (by omega)]
      · exact kk 2 (by omega) (by omega) (by omega) (by omega) (by omega) (by omega) (by omega)
      · exact kk 91 (by omega) (by omega) (by omega) (by omega) (by omega) (by omega) (by omega)
      · exact k82 11 (by decide) (by decide)
      · exact kk 7 (by omega) (by omega) (by omega) (by omega) (by omega) (by omega) (by omega)
      · rw [kk 4 (by omega) (by omega) (by omega) (by omega) (by omega) (by omega) (by omega)]
    · have hm' : m = 9999 := by omega
      refine ⟨-3, σ, σ, ?_, ?_, hI0⟩
      · unfold F_X11_does_0
        rw [hdoI hS hK, if_bP, if_pos hx64, hd1, if_neg (by rw [show (9999 : Int32) = nI 9999 from rfl, nI_ltI (by omega) (by decide)]; omega)]
      · unfold F_X12_does_0
        rw [idoM hM hK, ob_s, if_bP, if_pos hx64, hd2, if_pos (by rw [hm']; rfl)]
  · have hx64 : ¬ okDi K x.toInt64.toInt := by rw [t64]; exact hx
    refine ⟨-1, σ, σ, ?_, ?_, hI0⟩
    · unfold F_X11_does_0
      rw [hdoI hS hK, if_bP, if_neg hx64]
    · unfold F_X12_does_0
      rw [idoM hM hK, ob_s, if_bP, if_neg hx64]
theorem step_undo {σ : gS} (hI : Inv σ) : ∃ r σ1 σ2, F_X11_undo_0 σ = some (r, σ1) ∧ F_X12_undo_0 σ1 = some (r, σ2) ∧ Inv σ2 := by
  have hI0 := hI
  obtain ⟨⟨K, w, q, m, hC, ⟨h, nx, h0, h1, h2, h3, h4, h5, H, hH⟩⟩, hkp, hT, hR, hs⟩ := hI
  obtain ⟨hK, hS, hw, hq, hM, hwM, hqM, hd1, hd2, hm⟩ := id hC
  have h8 : kS K ≤ 8 := hK.1
  by_cases hz : h = 0
  · subst hz
    refine ⟨-4, σ, σ, ?_, ?_, hI0⟩
    · unfold F_X11_undo_0 F_X4_takeBack_0
      rw [h3, if_pos (by decide), ob2_s, if_pos rfl]
    · unfold F_X12_undo_0
      rw [h5, if_pos (by decide)]
  · obtain ⟨u, rfl⟩ : ∃ u, h = u + 1 := ⟨h - 1, by omega⟩
    obtain ⟨m', rfl⟩ : ∃ m', m = m' + 1 := ⟨m - 1, by omega⟩
    have hp : (nx + 24 - (u + 1) + u) % 24 = (nx + 23) % 24 := by omega
    obtain ⟨g1, g2⟩ := hH u (by omega)
    rw [hp] at g1
    let p := (nx + 23) % 24
    have hp24 : p < 24 := Nat.mod_lt _ (by decide)
    let τ1 := sI σ 16 1 (nI p)
    let τ2 := sI τ1 16 0 (nI u)
    let τ3 := cI τ2 (18 + p) 0 13 0 8
    let τ4 := sI τ3 10 3 (nI m')
    have htb : F_X4_takeBack_0 13 σ = some (1, τ3) := by
      unfold F_X4_takeBack_0
      rw [h3, if_neg (nI_ne0 (by omega) (by omega)), h4, L24, nI_add, L1, pk_sub (by omega), pk_rem (by omega) (by decide) (by decide), show (nx + 24 - 1) % 24 = p from by show _ = (nx + 23) % 24; rw [show nx + 24 - 1 = nx + 23 by omega], bd_e]
      have e0 : τ1.1 16 0 = nI (u + 1) := by show (sI σ 16 1 _).1 16 0 = _; rw [sI_o (by decide)]; exact h3
      show bd (sI τ1 16 0 (τ1.1 16 0 - nI 1)) _ = _
      rw [e0, pk_sub (by omega), Nat.add_sub_cancel, bd_e]
      have e1 : τ2.1 16 1 = nI p := by show (sI (sI σ 16 1 _) 16 0 _).1 16 1 = _; rw [sI_o (by decide), sI_at]
      show ck (inR (τ2.1 16 1) 24) _ = _
      rw [e1, ck_t (inR_t hp24 (by decide)), ck_t (by decide), TN_nI (by omega), bd_e]
    have k4 : ∀ c, c ≠ 10 → c ≠ 13 → c ≠ 16 → τ4.1 c = σ.1 c := by
      intro c c1 c2 c3
      show (sI (cI (sI (sI σ 16 1 _) 16 0 _) (18 + p) 0 13 0 8) 10 3 _).1 c = _
      rw [sI_ne c1, cI_ne c2, sI_ne c3, sI_ne c3]
    have hcl : F_X11_undo_0 σ = some (nI u, τ4) := by
      unfold F_X11_undo_0
      rw [htb, ob2_s, if_neg (by decide)]
      have e1 : τ3.1 10 3 = nI (m' + 1) := by
        show (cI (sI (sI σ 16 1 _) 16 0 _) (18 + p) 0 13 0 8).1 10 3 = _
        rw [cI_ne (by decide), sI_ne (by decide), sI_ne (by decide)]; exact hd1
      show bd (sI τ3 10 3 (τ3.1 10 3 - 1)) _ = _
      rw [e1, L1, pk_sub (by omega), Nat.add_sub_cancel, bd_e]
      have e2 : τ4.1 16 0 = nI u := by
        show (sI (cI (sI (sI σ 16 1 _) 16 0 _) (18 + p) 0 13 0 8) 10 3 _).1 16 0 = _
        rw [sI_ne (by decide), cI_ne (by decide), sI_at]
      show some (τ4.1 16 0, τ4) = _
      rw [e2]
    have hcp := copiesM (σ := sI (sI τ4 82 7 (nI u)) 82 5 (nI m')) (c0 := 88) (c2 := 86) (i := 32 * u) (j := 0) (n := 32) (by decide) (by show 32 * u + 32 ≤ 768; omega) (by decide) (by decide) (by decide) (by decide)
    let υ := sI (sI τ4 82 7 (nI u)) 82 5 (nI m')
    let ω := s1 υ 86 (va_cpy (υ.1 88) (υ.1 86) (32 * u) 0 32)
    have kυ : ∀ c, c ≠ 82 → υ.1 c = τ4.1 c := by
      intro c c1
      show (sI (sI τ4 82 7 _) 82 5 _).1 c = _
      rw [sI_ne c1, sI_ne c1]
    have hmo : F_X12_undo_0 τ4 = some (nI u, ω) := by
      unfold F_X12_undo_0
      rw [k4 82 (by decide) (by decide) (by decide), h5, if_neg (nI_ne0 (by omega) (by omega)), L1, pk_sub (by omega), Nat.add_sub_cancel, bd_e, sI_o (by decide), k4 82 (by decide) (by decide) (by decide), hd2, pk_sub (by omega), Nat.add_sub_cancel, bd_e]
      have e7 : (sI (sI τ4 82 7 (nI u)) 82 5 (nI m')).1 82 7 = nI u := by rw [sI_o (by decide), sI_at]
      rw [e7, L32, pk_mul, L0, hcp, ob_s]
      show some (ω.1 82 7, ω) = _
      have e8 : ω.1 82 7 = nI u := by show (s1 υ 86 _).1 82 7 = _; rw [s1_ne (by decide)]; exact e7
      rw [e8]
    have kω : ∀ c, c ≠ 10 → c ≠ 13 → c ≠ 16 → c ≠ 82 → c ≠ 86 → ω.1 c = σ.1 c := by
      intro c c1 c2 c3 c4 c5
      show (s1 υ 86 _).1 c = _
      rw [s1_ne c5, kυ c c4, k4 c c1 c2 c3]
    have kω2 : ∀ c, c ≠ 82 → c ≠ 86 → ω.1 c = τ4.1 c := by
      intro c c1 c2
      show (s1 υ 86 _).1 c = _
      rw [s1_ne c2, kυ c c1]
    have e88 : υ.1 88 = σ.1 88 := by rw [kυ 88 (by decide), k4 88 (by decide) (by decide) (by decide)]
    have e86 : υ.1 86 = σ.1 86 := by rw [kυ 86 (by decide), k4 86 (by decide) (by decide) (by decide)]
    have ω86 : ω.1 86 = va_cpy (σ.1 88) (σ.1 86) (32 * u) 0 32 := by show (s1 υ 86 _).1 86 = _; rw [s1_eq, e88, e86]
    have ω82 : ∀ j, j ≠ 5 → j ≠ 7 → ω.1 82 j = σ.1 82 j := by
      intro j j1 j2
      show (s1 υ 86 _).1 82 j = _
      rw [s1_ne (by decide)]
      show (sI (sI τ4 82 7 _) 82 5 _).1 82 j = _
      rw [sI_o j1, sI_o j2, k4 82 (by decide) (by decide) (by decide)]
    have ω10 : ∀ j, j ≠ 3 → ω.1 10 j = σ.1 10 j := by
      intro j j1
      rw [kω2 10 (by decide) (by decide)]
      show (sI (cI (sI (sI σ 16 1 _) 16 0 _) (18 + p) 0 13 0 8) 10 3 _).1 10 j = _
      rw [sI_o j1, cI_ne (by decide), sI_ne (by decide), sI_ne (by decide)]
    refine ⟨nI u, τ4, ω, hcl, hmo, ⟨⟨K, w, H u, m', ⟨hK, ?_, ?_, ?_, ?_, ?_, ?_, ?_, ?_, by omega⟩, ⟨u, p, by omega, by omega, hp24, ?_, ?_, ?_, H, fun j hj => ?_⟩⟩, fun k hk => (hkp k hk).keep hk (fun c hc => kω c (by omega) (by omega) (by omega) (by omega) (by omega)), hT.keep ?_ ?_ ?_ ?_, hR.keep ?_ ?_, fun s hs' => (hs s hs').keep hs' (fun c hc => kω c (by omega) (by omega) (by omega) (by omega) (by omega)) (fun c hc => rfl)⟩⟩
    · refine ⟨?_, ?_, ?_, ?_, ?_, ?_⟩
      · rw [ω10 0 (by decide)]; exact hS.1
      · rw [ω10 1 (by decide)]; exact hS.2.1
      · rw [ω10 2 (by decide)]; exact hS.2.2.1
      · rw [kω (10 + 1) (by omega) (by omega) (by omega) (by omega) (by omega)]; exact hS.2.2.2.1
      · rw [kω (10 + 4) (by omega) (by omega) (by omega) (by omega) (by omega)]; exact hS.2.2.2.2.1
      · rw [kω (10 + 5) (by omega) (by omega) (by omega) (by omega) (by omega)]; exact hS.2.2.2.2.2
    · rw [kω 12 (by omega) (by omega) (by omega) (by omega) (by omega)]; exact hw
    · rw [kω2 13 (by decide) (by decide)]
      show RQ ((sI (cI (sI (sI σ 16 1 _) 16 0 _) (18 + p) 0 13 0 8) 10 3 _).1 13) _ _
      rw [sI_ne (by decide), cI_eq, sI_ne (by omega), sI_ne (by omega)]
      intro i hi
      refine ⟨?_, (g1 i hi).2⟩
      rw [show (0 : Int32).toNatClampNeg = 0 from rfl, show (8 : Int32).toNatClampNeg = 8 from rfl]
      unfold va_cpy
      rw [if_pos (by omega), show 0 + (i - 0) = i by omega]
      exact (g1 i hi).1
    · rw [kω 83 (by omega) (by omega) (by omega) (by omega) (by omega)]; exact hM
    · intro i hi
      rw [ω86]; unfold va_cpy; rw [if_neg (by omega)]
      exact hwM i hi
    · refine g2.congr h8 (fun k hk => ?_)
      rw [ω86]; unfold va_cpy; rw [if_pos (by omega), show 32 * u + (k - 0) = 32 * u + k by omega]
    · rw [kω2 10 (by decide) (by decide)]; exact sI_at _ _ _ _
    · show (s1 υ 86 _).1 82 5 = _
      rw [s1_ne (by decide)]; exact sI_at _ _ _ _
    · rw [kω2 16 (by decide) (by decide)]
      show (sI (cI (sI (sI σ 16 1 _) 16 0 _) (18 + p) 0 13 0 8) 10 3 _).1 16 0 = _
      rw [sI_ne (by decide), cI_ne (by decide), sI_at]
    · rw [kω2 16 (by decide) (by decide)]
      show (sI (cI (sI (sI σ 16 1 _) 16 0 _) (18 + p) 0 13 0 8) 10 3 _).1 16 1 = _
      rw [sI_ne (by decide), cI_ne (by decide), sI_o (by decide), sI_at]
    · show (s1 υ 86 _).1 82 7 = _
      rw [s1_ne (by decide)]
      show (sI (sI τ4 82 7 _) 82 5 _).1 82 7 = _
      rw [sI_o (by decide), sI_at]
    · obtain ⟨a1, a2⟩ := hH j (by omega)
      refine ⟨?_, ?_⟩
      · rw [kω _ (by omega) (by omega) (by omega) (by omega) (by omega), show (p + 24 - u + j) % 24 = (nx + 24 - (u + 1) + j) % 24 by (show ((nx + 23) % 24 + 24 - u + j) % 24 = _); omega]
        exact a1
      · rw [kω 88 (by omega) (by omega) (by omega) (by omega) (by omega)]; exact a2
    · rw [kω 1 (by omega) (by omega) (by omega) (by omega) (by omega)]
    · exact kω 2 (by omega) (by omega) (by omega) (by omega) (by omega)
    · exact kω 91 (by omega) (by omega) (by omega) (by omega) (by omega)
    · exact ω82 11 (by decide) (by decide)
    · exact kω 7 (by omega) (by omega) (by omega) (by omega) (by omega)
    · rw [kω 4 (by omega) (by omega) (by omega) (by omega) (by omega)]
