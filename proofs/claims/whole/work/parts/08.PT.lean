/-! PURE T: round: the step -/
theorem rn89 {K : CS} {s j n : Nat} {D : Nat → Nat} {q : Nat → QD} {U L : Nat → Nat} {v : Int32} (hK : okK K) (hs : s < 4) (hj : j + n ≤ 24) (hn : n ≤ 20) (hUL : ∀ i, i < kS K → RD (xs K i n D (q i)) (U i) (L i) ∧ U i + L i ≤ 2533 ∧ L i ∣ 2520) (hok : ∀ i, i < kS K → okQ (q i)) :
    ∀ (m i f : Nat) (τ : gS), i + m = kS K → m < f → SM (τ.1 83) K → (∀ d, d < n → (τ.2 94 (24 * s + j + d)).toInt32 = nI (D d) ∧ okD K (D d)) → (∀ k, i ≤ k → k < kS K → τ.1 87 (3 * k) = nI (q k).1 ∧ τ.1 87 (3 * k + 1) = nI (q k).2.1 ∧ τ.1 87 (3 * k + 2) = nI (q k).2.2.1 ∧ τ.1 87 (24 + k) = nI (q k).2.2.2) →
      ∃ τ', F_X12_round_89 f (nI s) (nI j) (nI n) v (nI (mxN U i)) (nI (lcN L i)) (nI i) τ = some (if v = 0 then nI (mxN U (kS K)) else nI (lcN L (kS K)), τ') ∧ Ag τ τ' := by
  have h8 : kS K ≤ 8 := hK.1
  intro m
  induction m with
  | zero =>
    intro i f τ hi hf hM hD h87
    obtain ⟨f, rfl⟩ : ∃ z, f = z + 1 := ⟨f - 1, by omega⟩
    have hik : i = kS K := by omega
    subst hik
    refine ⟨τ, ?_, Ag.rf τ⟩
    rw [F_X12_round_89, hM.1, if_pos (nI_le (by omega) (by omega))]
    split <;> rfl
  | succ m ih =>
    intro i f τ hi hf hM hD h87
    obtain ⟨f, rfl⟩ : ∃ z, f = z + 1 := ⟨f - 1, by omega⟩
    have hik : i < kS K := by omega
    obtain ⟨hR, hul, hdv⟩ := hUL i hik
    obtain ⟨a1, a2, a3, a4⟩ := h87 i (Nat.le_refl _) hik
    have hmx : mxN U i ≤ 2533 := mxN_le i (fun k hk => by have := (hUL k (by omega)).2.1; omega)
    have hlc : lcN L i ∣ 2520 := lcN_dvd i (fun k hk => (hUL k (by omega)).2.2)
    have hl0 : 0 < lcN L i := Nat.pos_of_dvd_of_pos hlc (by decide)
    have hl1 : lcN L i ≤ 2520 := Nat.le_of_dvd (by decide) hlc
    have hLp := hR.1
    obtain ⟨h', Q, r⟩ := gr0 (σ := τ) (s := s) (j := j) hK hM hik hs hj hn hD (hok i hik) (pq_id a1 a2 a3 a4) hR hul
    let υ := sI (sI (s1 (s1 τ 97 h') 87 (pq (τ.1 87) i Q)) 82 20 (nI (U i))) 82 21 (nI (L i))
    have u20 : υ.1 82 20 = nI (U i) := by
      show (sI (sI _ 82 20 _) 82 21 _).1 82 20 = _
      rw [sI_o (by decide), sI_at]
    have u21 : υ.1 82 21 = nI (L i) := sI_at _ _ _ _
    have hMυ : SM (υ.1 83) K := by
      show SM ((sI (sI (s1 (s1 τ 97 h') 87 (pq (τ.1 87) i Q)) 82 20 (nI (U i))) 82 21 (nI (L i))).1 83) K
      rw [sI_ne (by decide), sI_ne (by decide), s1_ne (by decide), s1_ne (by decide)]; exact hM
    have u87 : υ.1 87 = pq (τ.1 87) i Q := by
      show (sI (sI (s1 (s1 τ 97 h') 87 (pq (τ.1 87) i Q)) 82 20 (nI (U i))) 82 21 (nI (L i))).1 87 = _
      rw [sI_ne (by decide), sI_ne (by decide), s1_eq]
    have hAg : Ag τ υ := by
      refine ⟨fun c hc => ?_, fun c hc => rfl, ?_, ?_, ?_, ?_⟩
      · show (sI (sI (s1 (s1 τ 97 h') 87 (pq (τ.1 87) i Q)) 82 20 (nI (U i))) 82 21 (nI (L i))).1 c = _
        rw [sI_ne (by omega), sI_ne (by omega), s1_ne (by omega), s1_ne (by omega)]
      · show (sI (sI (s1 (s1 τ 97 h') 87 (pq (τ.1 87) i Q)) 82 20 (nI (U i))) 82 21 (nI (L i))).1 4 3 = _
        rw [sI_ne (by decide), sI_ne (by decide), s1_ne (by decide), s1_ne (by decide)]
      · show (sI (sI (s1 (s1 τ 97 h') 87 (pq (τ.1 87) i Q)) 82 20 (nI (U i))) 82 21 (nI (L i))).1 82 5 = _
        rw [sI_o (by decide), sI_o (by decide), s1_ne (by decide), s1_ne (by decide)]
      · show (sI (sI (s1 (s1 τ 97 h') 87 (pq (τ.1 87) i Q)) 82 20 (nI (U i))) 82 21 (nI (L i))).1 82 7 = _
        rw [sI_o (by decide), sI_o (by decide), s1_ne (by decide), s1_ne (by decide)]
      · show (sI (sI (s1 (s1 τ 97 h') 87 (pq (τ.1 87) i Q)) 82 20 (nI (U i))) 82 21 (nI (L i))).1 82 11 = _
        rw [sI_o (by decide), sI_o (by decide), s1_ne (by decide), s1_ne (by decide)]
    obtain ⟨τ', z1, z2⟩ := ih (i + 1) f υ (by omega) (by omega) hMυ hD (fun k h1 h2 => by
      obtain ⟨p1, p2, p3, p4⟩ := pq_ot (f := τ.1 87) (q := Q) (show i < 8 by omega) (show k < 8 by omega) (by omega)
      rw [u87, p1, p2, p3, p4]; exact h87 k (by omega) h2)
    refine ⟨τ', ?_, hAg.tr z2⟩
    have hgd : 0 < L i / Nat.gcd (lcN L i) (L i) := Nat.div_pos (Nat.gcd_le_right _ hLp) (Nat.gcd_pos_of_pos_left _ hl0)
    have hgl : L i / Nat.gcd (lcN L i) (L i) ≤ L i := Nat.div_le_self _ _
    have fin : ∀ y0 : Int32, y0 = nI (max (mxN U i) (U i)) → F_X12_round_128 (F_X12_round_89 f) (nI s) (nI j) (nI n) v (nI (lcN L i)) (nI i) y0 υ = some (if v = 0 then nI (mxN U (kS K)) else nI (lcN L (kS K)), τ') := by
      intro y0 hy
      have h := rn134 (τ := υ) (A := lcN L i) (l := L i) (x1 := nI s) (x3 := nI j) (x4 := nI n) (x5 := v) (x7 := y0) (x9 := nI i) (F_X12_round_89 f) hl0 hLp (by omega) hl1 u21 (L i / Nat.gcd (lcN L i) (L i) - 1) 1 fu (by omega) (by unfold fu; omega) (by decide)
      rw [Nat.mul_one] at h
      rw [F_X12_round_128, h, bd_e, show nI i + 1 = nI (i + 1) from nI_1 i, hy]
      exact z1
    rw [F_X12_round_89, hM.1, if_neg (nI_ge (by omega) (by omega)), r, ob_s]
    show (if υ.1 82 20 ≤ nI (mxN U i) then F_X12_round_128 (F_X12_round_89 f) (nI s) (nI j) (nI n) v (nI (lcN L i)) (nI i) (nI (mxN U i)) υ else F_X12_round_128 (F_X12_round_89 f) (nI s) (nI j) (nI n) v (nI (lcN L i)) (nI i) (υ.1 82 20) υ) = _
    rw [u20, if_nI_le (by omega) (by omega)]
    by_cases hle : U i ≤ mxN U i
    · rw [if_pos hle]; exact fin _ (by rw [Nat.max_eq_left hle])
    · rw [if_neg hle]; exact fin _ (by rw [Nat.max_eq_right (by omega)])
theorem step_round {σ : gS} (hI : Inv σ) (x1 x2 x3 x4 x5 : Int32) : ∃ r σ1 σ2, F_X11_round_0 x1 x2 x3 x4 x5 σ = some (r, σ1) ∧ F_X12_round_0 x1 x2 x3 x4 x5 σ1 = some (r, σ2) ∧ Inv σ2 := by
  obtain ⟨⟨K, w, q, m, hC, hP⟩, hkp, hT, hR, hS4⟩ := id hI
  obtain ⟨hK, hS, hw, hq, hM, hwM, hqM, hd1, hd2, hm⟩ := id hC
  have h8 : kS K ≤ 8 := hK.1
  have c1 : ∀ x : Int32, x ≤ 1 ↔ x.toInt ≤ 1 := fun x => by rw [Int32.le_iff_toInt_le]; exact Iff.rfl
  have l1 : ∀ x : Int32, x < 1 ↔ x.toInt < 1 := fun x => by rw [Int32.lt_iff_toInt_lt]; exact Iff.rfl
  by_cases hv : 0 < kS K ∧ ((0 ≤ x1.toInt ∧ x1.toInt < (4 : Nat)) ∧ (0 ≤ x2.toInt ∧ x2.toInt < (4 : Nat))) ∧ (1 ≤ x4.toInt ∧ x4.toInt ≤ 20) ∧ (0 ≤ x5.toInt ∧ x5.toInt ≤ 1)
  · obtain ⟨hz, ⟨v2, v3⟩, v5, v6⟩ := hv
    obtain ⟨s, hs, rfl⟩ := of_rng v2 (by decide)
    obtain ⟨n, hn, rfl⟩ := of_rng (x := x4) (n := 21) (by omega) (by decide)
    obtain ⟨o, o1, o2, o3⟩ := ISs_o.mp (hS4 s hs)
    have v50 : 0 ≤ (nI n).toInt := by omega
    have ctk := (takeD hS4 hS hK (nI s) x2 x3 (nI n) v50).2 s o hs rfl v3 v5.2 o1
    have cl : ∀ k, F_X11_takeDoings_0 (nI s) x2 x3 (nI n) σ = some k → F_X11_round_0 (nI s) x2 x3 (nI n) x5 σ = (if k.1 = 0 then (ob (F_X7_measure_0 81 (nI n) k.2) (fun σ62 => if x5 = 0 then (some (σ62.1 80 0, σ62)) else (some (σ62.1 80 1, σ62)))) else some k) := by
      intro k hk
      unfold F_X11_round_0
      rw [stI hS.1 (by omega), if_bP, if_pos hz, if_neg (fun z => by rw [l1] at z; omega), if_neg (fun z => by rw [lt0] at z; omega), if_pos ((c1 _).mpr v6.2), hk]
      rfl
    have md : ∀ τ : gS, τ.1 83 = σ.1 83 → shM τ s o → F_X12_round_0 (nI s) x2 x3 (nI n) x5 τ = (if 0 ≤ rfz o x2 x3 (nI n) then (ob (F_X12_areDoings_0 (nI s) x3 (nI n) τ) (fun r67 => if r67 = 0 then (some ((-2), τ)) else (ob (F_X12_laysAside_0 τ) (fun σ77 => F_X12_round_89 fu (nI s) x3 (nI n) x5 0 1 0 σ77)))) else some (rfz o x2 x3 (nI n), τ)) := by
      intro τ h83 hsm
      unfold F_X12_round_0
      rw [h83, hM.1, if_neg (nI_ne0 (by omega) (by omega)), ishM, if_bP, if_pos ⟨v2, v3⟩, inL _ 1 20 (p := 1) (q := 20) rfl rfl, if_bP, if_pos v5, inL _ 0 1 (p := 0) (q := 1) rfl rfl, if_bP, if_pos v6, foundM hs hsm _ _ _ v50, ob_s]
    by_cases hf : rfz o x2 x3 (nI n) = 0
    · rw [if_pos hf] at ctk
      rw [hf] at md
      obtain ⟨l, N, rfl, rfl, h3, h4, h5⟩ := rfz_0 hf
      have a4 := o1.2.2.2
      simp only at a4
      rw [nI_toInt (show n < 2 ^ 31 by omega)] at h5
      obtain ⟨j, hj, rfl⟩ := of_rng (x := x3) (n := 25) (by omega) (by decide)
      rw [nI_toInt (show j < 2 ^ 31 by omega)] at h5
      obtain ⟨f', t1, t2⟩ := takeI (K := K) (s := s) (i := j) (n := n) hS hK hs (by omega) (by omega)
      rw [t1] at ctk
      have ag1 : Ag σ (s1 σ 81 f') := Ag_s1 (by decide)
      have hI1 : Inv (s1 σ 81 f') := hI.keep ag1
      have eI : ∀ d, d < n → σ.2 (56 + 2 * s + 1) (j + d) = σ.2 94 (24 * s + j + d) := fun d hd => by rw [o3 (by simp) _ (by omega), Nat.add_assoc]
      by_cases hall : ∀ d, d < n → okDi K (σ.2 (56 + 2 * s + 1) (j + d)).toInt
      · rw [if_pos hall] at ctk
        have hall' : ∀ d, d < n → okDi K (σ.2 94 (24 * s + j + d)).toInt := fun d hd => by rw [← eI d hd]; exact hall d hd
        let g : Nat → Int64 := fun d => σ.2 94 (24 * s + j + d)
        have hD : ∀ d, d < n → (g d).toInt32 = nI (dgN g d) ∧ okD K (dgN g d) := fun d hd => dgN_ok hK (hall' d hd)
        have hS1 : SC 10 (s1 σ 81 f') K := hS.keep (s1_ne (by decide)) (s1_ne (by decide)) (s1_ne (by decide)) (s1_ne (by decide))
        have c0 := cl _ ctk
        dsimp only at c0
        have hex : ∀ i, ∃ p : Nat × Nat, i < kS K → RD (xs K i n (dgN g) (q i)) p.1 p.2 ∧ p.1 + p.2 ≤ 2533 ∧ p.2 ∣ 2520 := fun i => by
          by_cases hi : i < kS K
          · obtain ⟨u, l, h1, h2, h3⟩ := goes (K := K) (i := i) (n := n) (D := dgN g) (hq i hi).2
            exact ⟨(u, l), fun _ => ⟨h1, h2, h3⟩⟩
          · exact ⟨(0, 0), fun h => absurd h hi⟩
        obtain ⟨UL, hUL⟩ := Classical.axiomOfChoice hex
        obtain ⟨τ, r1, r2, r3, r4, r5⟩ := measI (σ := s1 σ 81 f') (n := n) (D := dgN g) (q := q) (U := fun i => (UL i).1) (L := fun i => (UL i).2) hK (by omega) hS1 (by rw [s1_ne (by decide)]; exact hq) (fun d hd => ⟨by rw [s1_eq, t2 hall d hd, eI d hd]; exact (hD d hd).1, (hD d hd).2⟩) hUL
        rw [if_pos rfl, r1, ob_s, r2, r3] at c0
        have h83 : τ.1 83 = σ.1 83 := by rw [r4 83 (by decide), s1_ne (by decide)]
        have h86 : τ.1 86 = σ.1 86 := by rw [r4 86 (by decide), s1_ne (by decide)]
        have hMτ : SM (τ.1 83) K := by rw [h83]; exact hM
        have agτ : Ag σ τ := ag1.tr ⟨fun c hc => r4 c (by omega), fun c hc => by rw [r5], by rw [r4 4 (by decide)], by rw [r4 82 (by decide)], by rw [r4 82 (by decide)], by rw [r4 82 (by decide)]⟩
        have h94 : τ.2 = σ.2 := r5
        have o2' : shM τ s (some (l, N)) := by
          have e92 : τ.1 92 = σ.1 92 := by rw [r4 92 (by decide), s1_ne (by decide)]
          have e93 : τ.1 93 = σ.1 93 := by rw [r4 93 (by decide), s1_ne (by decide)]
          unfold shM at o2 ⊢
          rw [e92, e93]; exact o2
        have are := areM (σ := τ) (K := K) (s := s) (i := j) (n := n) hMτ hK hs (by omega)
        have m0 := md τ h83 o2'
        have hall2 : ∀ d, d < n → okDi K (τ.2 94 (24 * s + j + d)).toInt := by rw [h94]; exact hall'
        rw [if_pos (by decide), are, ob_s, if_bP, if_pos hall2, asideM, ob_s] at m0
        let f0 := va_cpy (τ.1 86) (τ.1 87) 0 0 40
        have hf0 : ∀ k, k < 40 → f0 k = σ.1 86 k := fun k hk => by
          show va_cpy (τ.1 86) (τ.1 87) 0 0 40 k = _
          rw [aside_at τ hk, h86]
        obtain ⟨τ', z1, z2⟩ := rn89 (s := s) (j := j) (n := n) (D := dgN g) (q := q) (U := fun i => (UL i).1) (L := fun i => (UL i).2) (v := x5) hK hs (by omega) (by omega) hUL (fun i hi => (hq i hi).2) (kS K) 0 fu (s1 τ 87 f0) (by omega) (by unfold fu; omega) (by rw [s1_ne (by decide)]; exact hMτ) (fun d hd => by rw [s1_2, h94]; exact hD d hd) (fun k h1 h2 => by
          obtain ⟨g1, g2, g3, g4, -⟩ := hqM k h2
          rw [s1_eq, hf0 _ (by omega), hf0 _ (by omega), hf0 _ (by omega), hf0 _ (by omega)]
          exact ⟨g1, g2, g3, g4⟩)
        have m1 := m0.trans z1
        refine ⟨_, τ, τ', ?_, m1, hI.keep (agτ.tr ((Ag_s1 (by decide)).tr z2))⟩
        rw [c0]
        split <;> rfl
      · have are := areM (σ := s1 σ 81 f') (K := K) (s := s) (i := j) (n := n) (by rw [s1_ne (by decide)]; exact hM) hK hs (by omega)
        have m0 := md (s1 σ 81 f') (s1_ne (by decide)) o2
        rw [if_pos (by decide), are, ob_s, if_bP] at m0
        have hall' : ¬ ∀ d, d < n → okDi K (σ.2 94 (24 * s + j + d)).toInt := fun h => hall (fun d hd => by rw [eI d hd]; exact h d hd)
        rw [if_neg hall] at ctk
        have c0 := cl _ ctk
        dsimp only at c0
        rw [if_neg (by decide)] at c0
        have hall2 : ¬ ∀ d, d < n → okDi K ((s1 σ 81 f').2 94 (24 * s + j + d)).toInt := hall'
        rw [if_neg hall2] at m0
        exact ⟨_, _, _, c0, m0, hI1⟩
    · rw [if_neg hf] at ctk
      have c0 := cl _ ctk
      dsimp only at c0
      rw [if_neg hf] at c0
      have m0 := md σ rfl o2
      rw [if_neg (rfz_n hf)] at m0
      exact ⟨_, _, _, c0, m0, hI⟩
  · refine ⟨-1, σ, σ, ?_, ?_, hI⟩
    · unfold F_X11_round_0
      rw [stI hS.1 (by omega), if_bP]
      by_cases v1 : 0 < kS K
      · rw [if_pos v1]
        by_cases v5 : x4 < 1
        · rw [if_pos v5]
        · rw [if_neg v5]
          rw [l1] at v5
          by_cases v6 : x5 < 0
          · rw [if_pos v6]
          · rw [if_neg v6]
            rw [lt0] at v6
            by_cases v7 : x5 ≤ 1
            · rw [if_pos v7]
              rw [c1] at v7
              rw [(takeD hS4 hS hK x1 x2 x3 x4 (by omega)).1 (by omega), ob2_s, if_neg (by decide)]
            · rw [if_neg v7]
      · rw [if_neg v1]
    · unfold F_X12_round_0
      rw [hM.1, if_nI_z (by omega), ishM, if_bP, inL _ 1 20 (p := 1) (q := 20) rfl rfl, if_bP, inL _ 0 1 (p := 0) (q := 1) rfl rfl, if_bP]
      by_cases v1 : kS K = 0
      · rw [if_pos v1]
      · rw [if_neg v1]
        by_cases v2 : (0 ≤ x1.toInt ∧ x1.toInt < (4 : Nat)) ∧ (0 ≤ x2.toInt ∧ x2.toInt < (4 : Nat))
        · rw [if_pos v2]
          by_cases v5 : 1 ≤ x4.toInt ∧ x4.toInt ≤ 20
          · rw [if_pos v5, if_neg (fun v6 => hv ⟨by omega, v2, v5, v6⟩)]
          · rw [if_neg v5]
        · rw [if_neg v2]
