/-! PURE E: ahead, decades -/
theorem Ag_s1 {σ : gS} {c : Nat} {f : Nat → Int32} (h : ¬ (c = 1 ∨ c = 2 ∨ c = 4 ∨ c = 7 ∨ (10 ≤ c ∧ c ≤ 63) ∨ (82 ≤ c ∧ c ≤ 83) ∨ c = 86 ∨ (88 ≤ c ∧ c ≤ 93))) : Ag σ (s1 σ c f) :=
  ⟨fun d hd => s1_ne (by omega), fun _ _ => rfl, by rw [s1_ne (by omega)], by rw [s1_ne (by omega)], by rw [s1_ne (by omega)], by rw [s1_ne (by omega)]⟩
theorem Ag_sI {σ : gS} {c k : Nat} {v : Int32} (h : ¬ (c = 1 ∨ c = 2 ∨ c = 4 ∨ c = 7 ∨ (10 ≤ c ∧ c ≤ 63) ∨ (82 ≤ c ∧ c ≤ 83) ∨ c = 86 ∨ (88 ≤ c ∧ c ≤ 93))) : Ag σ (sI σ c k v) := Ag_s1 h
theorem Ag_s2 {σ : gS} {c : Nat} {f : Nat → Int64} (h : ¬ ((56 ≤ c ∧ c ≤ 63) ∨ c = 94)) : Ag σ (s2 σ c f) :=
  ⟨fun d hd => rfl, fun d hd => s2_ne (by omega), rfl, rfl, rfl, rfl⟩
theorem takeD {σ : gS} {K : CS} (hI : ∀ s, s < 4 → ISs σ s) (hS : SC 10 σ K) (hK : okK K) (x y z n : Int32) (hn : 0 ≤ n.toInt) :
    (¬ ((0 ≤ x.toInt ∧ x.toInt < (4 : Nat)) ∧ (0 ≤ y.toInt ∧ y.toInt < (4 : Nat)) ∧ n.toInt ≤ 20) → F_X11_takeDoings_0 x y z n σ = some (-1, σ)) ∧
    (∀ s o, s < 4 → x = nI s → (0 ≤ y.toInt ∧ y.toInt < (4 : Nat)) → n.toInt ≤ 20 → shC σ s o → F_X11_takeDoings_0 x y z n σ = if rfz o y z n = 0 then F_X11_takeDoings_49 fu (nI s) z n 0 σ else some (rfz o y z n, σ)) := by
  refine ⟨fun h => ?_, fun s o hs hx hy h20 ho => ?_⟩
  · unfold F_X11_takeDoings_0
    rw [ishI, ilnI, if_bP, if_bP]
    by_cases hx : 0 ≤ x.toInt ∧ x.toInt < (4 : Nat)
    · rw [if_pos hx]
      by_cases hy : 0 ≤ y.toInt ∧ y.toInt < (4 : Nat)
      · rw [if_pos hy, if_neg (fun q => h ⟨hx, hy, ?_⟩)]
        rw [L20, le_lit (by decide)] at q
        exact q
      · rw [if_neg hy]
    · rw [if_neg hx]
  · subst hx
    unfold F_X11_takeDoings_0
    rw [ishI, ilnI, if_bP, if_bP, if_pos (rng_nI hs (by decide)), if_pos hy, if_pos (by rw [L20, le_lit (by decide)]; exact h20), ck_t (inR_t hs (by decide)), TN_nI (by omega), refI ho, bd_e]
theorem pq_at (f : Nat → Int32) {i : Nat} (hi : i < 8) (q : QD) : pq f i q (3 * i) = nI q.1 ∧ pq f i q (3 * i + 1) = nI q.2.1 ∧ pq f i q (3 * i + 2) = nI q.2.2.1 ∧ pq f i q (24 + i) = nI q.2.2.2 := by
  unfold pq
  refine ⟨?_, ?_, ?_, ?_⟩
  · rw [if_pos rfl]
  · rw [if_neg (by omega), if_pos rfl]
  · rw [if_neg (by omega), if_neg (by omega), if_pos rfl]
  · rw [if_neg (by omega), if_neg (by omega), if_neg (by omega), if_pos rfl]
theorem pq_pq (f : Nat → Int32) (i : Nat) (q q' : QD) : pq (pq f i q) i q' = pq f i q' := by
  funext k
  unfold pq
  by_cases e0 : k = 3 * i
  · simp [e0]
  · by_cases e1 : k = 3 * i + 1
    · simp [e1]
    · by_cases e2 : k = 3 * i + 2
      · simp [e2]
      · by_cases e3 : k = 24 + i
        · simp [e0, e1, e2, e3]
        · simp [e0, e1, e2, e3]
theorem pq_id {f : Nat → Int32} {i : Nat} {q : QD} (h0 : f (3 * i) = nI q.1) (h1 : f (3 * i + 1) = nI q.2.1) (h2 : f (3 * i + 2) = nI q.2.2.1) (h3 : f (24 + i) = nI q.2.2.2) : pq f i q = f := by
  funext k
  unfold pq
  by_cases e0 : k = 3 * i
  · rw [if_pos e0, e0, h0]
  · rw [if_neg e0]
    by_cases e1 : k = 3 * i + 1
    · rw [if_pos e1, e1, h1]
    · rw [if_neg e1]
      by_cases e2 : k = 3 * i + 2
      · rw [if_pos e2, e2, h2]
      · rw [if_neg e2]
        by_cases e3 : k = 24 + i
        · rw [if_pos e3, e3, h3]
        · rw [if_neg e3]
theorem pq_hi {f : Nat → Int32} {i k : Nat} {q : QD} (hi : i < 8) (h : 32 ≤ k) : pq f i q k = f k := by
  unfold pq; rw [if_neg (by omega), if_neg (by omega), if_neg (by omega), if_neg (by omega)]
theorem pq_ot {f : Nat → Int32} {i j : Nat} {q : QD} (hi : i < 8) (hj : j < 8) (h : j ≠ i) : pq f i q (3 * j) = f (3 * j) ∧ pq f i q (3 * j + 1) = f (3 * j + 1) ∧ pq f i q (3 * j + 2) = f (3 * j + 2) ∧ pq f i q (24 + j) = f (24 + j) := by
  unfold pq
  refine ⟨?_, ?_, ?_, ?_⟩ <;> rw [if_neg (by omega), if_neg (by omega), if_neg (by omega), if_neg (by omega)]
/-- one more doing of a square that lies aside -/
theorem doesPq {σ : gS} {K : CS} {c i d : Nat} {f : Nat → Int32} {q : QD} (hM : SM (σ.1 83) K) (hK : okK K) (hc : c ≠ 83) (hi : i < kS K) (hd : okD K d) (hq : okQ q) : F_X12_doesOn_0 c (nI i) (nI d) (s1 σ c (pq f i q)) = some (s1 σ c (pq f i (afQ K i d q))) := by
  have h8 : kS K ≤ 8 := hK.1
  obtain ⟨p1, p2, p3, p4⟩ := pq_at f (show i < 8 by omega) q
  rw [doesOnM (σ := s1 σ c (pq f i q)) (q := q) (by rw [s1_ne (Ne.symm hc)]; exact hM) hK hc hi hd hq (by rw [s1_eq]; exact p1) (by rw [s1_eq]; exact p2) (by rw [s1_eq]; exact p3) (by rw [s1_eq]; exact p4), s1_eq, s1_s1, pq_pq]
theorem asideM (σ : gS) : F_X12_laysAside_0 σ = some (s1 σ 87 (va_cpy (σ.1 86) (σ.1 87) 0 0 40)) := by
  unfold F_X12_laysAside_0
  have h : F_X12_copies_0 86 87 0 0 40 σ = _ := copiesM (σ := σ) (c0 := 86) (c2 := 87) (i := 0) (j := 0) (n := 40) (by decide) (by decide) (by decide) (by decide) (by decide) (by decide)
  rw [h, ob_s]
theorem aside_at (σ : gS) {k : Nat} (h : k < 40) : va_cpy (σ.1 86) (σ.1 87) 0 0 40 k = σ.1 86 k := by
  have := cpy_in (f := σ.1 86) (g := σ.1 87) (i := 0) (j := 0) h
  rw [Nat.zero_add] at this
  exact this
def dgN (g : Nat → Int64) : Nat → Nat := fun d => (g d).toInt.toNat
theorem dgN_ok {K : CS} {g : Nat → Int64} {d : Nat} (hK : okK K) (h : okDi K (g d).toInt) : (g d).toInt32 = nI (dgN g d) ∧ okD K (dgN g d) := by
  obtain ⟨d', e, ok⟩ := okD_of hK h
  have h4 : kD K ≤ 4 := hK.2.1
  have h3 : kT K ≤ 3 := hK.2.2.1
  have hd21 : d' ≤ 21 := by unfold okD at ok; omega
  have ed : dgN g d = d' := by unfold dgN; omega
  rw [ed]
  exact ⟨t32 e (by omega), ok⟩
theorem step_ahead {σ : gS} (hI : Inv σ) (x1 x2 x3 x4 x5 x6 : Int32) : ∃ r σ1 σ2, F_X11_ahead_0 x1 x2 x3 x4 x5 x6 σ = some (r, σ1) ∧ F_X12_ahead_0 x1 x2 x3 x4 x5 x6 σ1 = some (r, σ2) ∧ Inv σ2 := by
  obtain ⟨⟨K, w, q, m, hC, hP⟩, hkp, hT, hR, hS4⟩ := id hI
  obtain ⟨hK, hS, hw, hq, hM, hwM, hqM, hd1, hd2, hm⟩ := id hC
  have h8 : kS K ≤ 8 := hK.1
  by_cases hv : (0 ≤ x1.toInt ∧ x1.toInt < (kS K : Int)) ∧ ((0 ≤ x2.toInt ∧ x2.toInt < (4 : Nat)) ∧ (0 ≤ x3.toInt ∧ x3.toInt < (4 : Nat))) ∧ (0 ≤ x5.toInt ∧ x5.toInt ≤ 20) ∧ (0 ≤ x6.toInt ∧ x6.toInt ≤ 2)
  · obtain ⟨v1, ⟨v2, v3⟩, v5, v6⟩ := hv
    obtain ⟨i, hi, rfl⟩ := of_rng v1 (by omega)
    obtain ⟨s, hs, rfl⟩ := of_rng v2 (by decide)
    obtain ⟨n, hn, rfl⟩ := of_rng (x := x5) (n := 21) (by omega) (by decide)
    obtain ⟨u, hu, rfl⟩ := of_rng (x := x6) (n := 3) (by omega) (by decide)
    obtain ⟨o, o1, o2, o3⟩ := ISs_o.mp (hS4 s hs)
    have ctk := (takeD hS4 hS hK (nI s) x3 x4 (nI n) v5.1).2 s o hs rfl v3 v5.2 o1
    have cl : ∀ k, F_X11_takeDoings_0 (nI s) x3 x4 (nI n) σ = some k → F_X11_ahead_0 (nI i) (nI s) x3 x4 (nI n) (nI u) σ = (if k.1 = 0 then (ck (inR (nI i) 8) (ob (F_X2_afterRow_0 81 (nI i) (k.2.1 13 (Int32.toNatClampNeg (nI i))) (nI n) k.2) (fun r69 => if nI u = 0 then (ob (F_X9_hueOf_0 r69) (fun r106 => some (r106, k.2))) else (if nI u = 1 then (some (F_X9_darkness_0 r69, k.2)) else (some (F_X9_waxIn_0 r69, k.2)))))) else some k) := by
      intro k hk
      unfold F_X11_ahead_0
      rw [hsqI hS.1 h8, if_bP, if_pos v1, if_neg (fun z => by rw [lt0] at z; omega), if_neg (fun z => by rw [lt0] at z; omega), if_pos (by rw [L2]; exact nI_le (by omega) (by decide)), hk]
      rfl
    have md : ∀ τ : gS, τ.1 83 = σ.1 83 → shM τ s o → F_X12_ahead_0 (nI i) (nI s) x3 x4 (nI n) (nI u) τ = (if 0 ≤ rfz o x3 x4 (nI n) then (ob (F_X12_areDoings_0 (nI s) x4 (nI n) τ) (fun r70 => if r70 = 0 then (some ((-2), τ)) else (ob (F_X12_laysAside_0 τ) (fun σ80 => F_X12_ahead_86 fu (nI i) (nI s) x4 (nI n) (nI u) 0 σ80)))) else some (rfz o x3 x4 (nI n), τ)) := by
      intro τ h83 hsm
      unfold F_X12_ahead_0
      rw [isqM (by rw [h83]; exact hM.1) h8, ob_s, if_bP, if_pos v1, ishM, if_bP, if_pos ⟨v2, v3⟩, inL _ 0 20 (p := 0) (q := 20) rfl rfl, if_bP, if_pos v5, inL _ 0 2 (p := 0) (q := 2) rfl rfl, if_bP, if_pos v6, foundM hs hsm _ _ _ v5.1, ob_s]
    by_cases hf : rfz o x3 x4 (nI n) = 0
    · rw [if_pos hf] at ctk
      rw [hf] at md
      obtain ⟨l, N, rfl, rfl, h3, h4, h5⟩ := rfz_0 hf
      have a4 := o1.2.2.2
      simp only at a4
      rw [nI_toInt (show n < 2 ^ 31 by omega)] at h5
      obtain ⟨j, hj, rfl⟩ := of_rng (x := x4) (n := 25) (by omega) (by decide)
      rw [nI_toInt (show j < 2 ^ 31 by omega)] at h5
      obtain ⟨f', t1, t2⟩ := takeI (K := K) (s := s) (i := j) (n := n) hS hK hs (by omega) (by omega)
      rw [t1] at ctk
      have ag1 : Ag σ (s1 σ 81 f') := Ag_s1 (by decide)
      have hI1 : Inv (s1 σ 81 f') := hI.keep ag1
      have eI : ∀ d, d < n → σ.2 (56 + 2 * s + 1) (j + d) = σ.2 94 (24 * s + j + d) := fun d hd => by rw [o3 (by simp) _ (by omega), Nat.add_assoc]
      have are := areM (σ := s1 σ 81 f') (K := K) (s := s) (i := j) (n := n) (by rw [s1_ne (by decide)]; exact hM) hK hs (by omega)
      have m0 := md (s1 σ 81 f') (s1_ne (by decide)) o2
      rw [if_pos (by decide), are, ob_s, if_bP] at m0
      by_cases hall : ∀ d, d < n → okDi K (σ.2 (56 + 2 * s + 1) (j + d)).toInt
      · rw [if_pos hall] at ctk
        have hall' : ∀ d, d < n → okDi K (σ.2 94 (24 * s + j + d)).toInt := fun d hd => by rw [← eI d hd]; exact hall d hd
        let g : Nat → Int64 := fun d => σ.2 94 (24 * s + j + d)
        have hD : ∀ d, d < n → (g d).toInt32 = nI (dgN g d) ∧ okD K (dgN g d) := fun d hd => dgN_ok hK (hall' d hd)
        have hall2 : ∀ d, d < n → okDi K ((s1 σ 81 f').2 94 (24 * s + j + d)).toInt := hall'
        rw [if_pos hall2, asideM, ob_s] at m0
        have hS1 : SC 10 (s1 σ 81 f') K := hS.keep (s1_ne (by decide)) (s1_ne (by decide)) (s1_ne (by decide)) (s1_ne (by decide))
        have c0 := cl _ ctk
        dsimp only at c0
        have hrow : F_X2_afterRow_0 81 (nI i) (nI (cd (q i))) (nI n) (s1 σ 81 f') = some (nI (cd (rwQ K i (dgN g) n (q i)))) := by
          refine rowI hS1 hK hi (hq i hi).2 (by omega) (fun d hd => ⟨?_, (hD d hd).2⟩)
          rw [s1_eq, t2 hall d hd, eI d hd]
          exact (hD d hd).1
        rw [if_pos rfl, ck_t (inR_t (by omega) (by decide)), TN_nI (by omega), s1_ne (by decide), (hq i hi).1, hrow, ob_s] at c0
        let τ := s1 σ 81 f'
        let f0 := va_cpy (τ.1 86) (τ.1 87) 0 0 40
        have hf0 : ∀ k, k < 40 → f0 k = σ.1 86 k := fun k hk => by
          show va_cpy (τ.1 86) (τ.1 87) 0 0 40 k = _
          rw [aside_at τ hk]
          show (s1 σ 81 f').1 86 k = _
          rw [s1_ne (by decide)]
        obtain ⟨g1, g2, g3, g4, g5⟩ := hqM i hi
        have okr := rwQ_ok (K := K) (i := i) (D := dgN g) g5 n
        have key : ∀ (mm k f : Nat), k + mm = n → mm < f → F_X12_ahead_86 f (nI i) (nI s) (nI j) (nI n) (nI u) (nI k) (s1 τ 87 (pq f0 i (rwQ K i (dgN g) k (q i)))) = (if nI u = 0 then some (nI (hueQ (rwQ K i (dgN g) n (q i))), s1 τ 87 (pq f0 i (rwQ K i (dgN g) n (q i)))) else if nI u = 1 then some (nI (dkQ (rwQ K i (dgN g) n (q i))), s1 τ 87 (pq f0 i (rwQ K i (dgN g) n (q i)))) else some (nI (rwQ K i (dgN g) n (q i)).2.2.2, s1 τ 87 (pq f0 i (rwQ K i (dgN g) n (q i))))) := by
          intro mm
          induction mm with
          | zero =>
            intro k f hk hff
            obtain ⟨f, rfl⟩ : ∃ z, f = z + 1 := ⟨f - 1, by omega⟩
            have hkn : k = n := by omega
            subst hkn
            obtain ⟨p1, p2, p3, p4⟩ := pq_at f0 (show i < 8 by omega) (rwQ K i (dgN g) k (q i))
            rw [F_X12_ahead_86, if_pos (nI_le (by omega) (by omega)), hueM (by omega) (by rw [s1_eq]; exact p1) (by rw [s1_eq]; exact p2) (by rw [s1_eq]; exact p3) okr, ob_s, darkM (by omega) (by rw [s1_eq]; exact p1) (by rw [s1_eq]; exact p2) (by rw [s1_eq]; exact p3), ob_s, L24, nI_add, ck_t (inR_t (by omega) (by decide)), TN_nI (by omega), s1_eq, p4]
          | succ mm ih =>
            intro k f hk hff
            obtain ⟨f, rfl⟩ : ∃ z, f = z + 1 := ⟨f - 1, by omega⟩
            obtain ⟨d1, d2⟩ := hD k (by omega)
            have e94 : (s1 τ 87 (pq f0 i (rwQ K i (dgN g) k (q i)))).2 94 (24 * s + j + k) = g k := rfl
            rw [F_X12_ahead_86, if_neg (nI_ge (by omega) (by omega)), L24, pk_mul, nI_add, nI_add, ck_t (inR_t (by omega) (by decide)), TN_nI (by omega), e94, d1, doesPq (by show SM ((s1 σ 81 f').1 83) K; rw [s1_ne (by decide)]; exact hM) hK (by decide) hi d2 (rwQ_ok g5 k), ob_s, bd_e, show nI k + 1 = nI (k + 1) from nI_1 k]
            exact ih (k + 1) f (by omega) (by omega)
        have m1 := key n 0 fu (by omega) (by unfold fu; omega)
        have e0 : pq f0 i (rwQ K i (dgN g) 0 (q i)) = f0 := pq_id (by rw [hf0 _ (by omega)]; exact g1) (by rw [hf0 _ (by omega)]; exact g2) (by rw [hf0 _ (by omega)]; exact g3) (by rw [hf0 _ (by omega)]; exact g4)
        rw [e0] at m1
        have m2 := m0.trans m1
        have ag2 : Ag τ (s1 τ 87 (pq f0 i (rwQ K i (dgN g) n (q i)))) := Ag_s1 (by decide)
        have hu' : u = 0 ∨ u = 1 ∨ u = 2 := by omega
        rcases hu' with rfl | rfl | rfl
        · rw [if_pos (by decide)] at m2
          rw [if_pos (by decide), hueI okr, ob_s] at c0
          exact ⟨_, _, _, c0, m2, hI1.keep ag2⟩
        · rw [if_neg (by decide), if_pos (by decide)] at m2
          rw [if_neg (by decide), if_pos (by decide), darkI okr] at c0
          exact ⟨_, _, _, c0, m2, hI1.keep ag2⟩
        · rw [if_neg (by decide), if_neg (by decide)] at m2
          rw [if_neg (by decide), if_neg (by decide), waxI okr] at c0
          exact ⟨_, _, _, c0, m2, hI1.keep ag2⟩
      · have hall' : ¬ ∀ d, d < n → okDi K (σ.2 94 (24 * s + j + d)).toInt := fun h => hall (fun d hd => by rw [eI d hd]; exact h d hd)
        rw [if_neg hall] at ctk
        have c0 := cl _ ctk
        dsimp only at c0
        rw [if_neg (by decide)] at c0
        have hall2 : ¬ ∀ d, d < n → okDi K ((s1 σ 81 f').2 94 (24 * s + j + d)).toInt := hall'
        rw [if_neg hall2] at m0
        exact ⟨_, _, _, c0, m0, hI1⟩
    · rw [if_neg hf] at ctk
      have c0 := cl _ ctk
      dsimp only at c0
      rw [if_neg hf] at c0
      have m0 := md σ rfl o2
      rw [if_neg (rfz_n hf)] at m0
      exact ⟨_, _, _, c0, m0, hI⟩
  · refine ⟨-1, σ, σ, ?_, ?_, hI⟩
    · unfold F_X11_ahead_0
      rw [hsqI hS.1 h8, if_bP]
      by_cases v1 : 0 ≤ x1.toInt ∧ x1.toInt < (kS K : Int)
      · rw [if_pos v1]
        by_cases v5 : x5 < 0
        · rw [if_pos v5]
        · rw [if_neg v5]
          rw [lt0] at v5
          by_cases v6 : x6 < 0
          · rw [if_pos v6]
          · rw [if_neg v6]
            rw [lt0] at v6
            by_cases v7 : x6 ≤ 2
            · rw [if_pos v7]
              rw [L2, le_lit (by decide)] at v7
              rw [(takeD hS4 hS hK x2 x3 x4 x5 (by omega)).1 (by omega), ob2_s, if_neg (by decide)]
            · rw [if_neg v7]
      · rw [if_neg v1]
    · unfold F_X12_ahead_0
      rw [isqM hM.1 h8, ob_s, if_bP, ishM, if_bP, inL _ 0 20 (p := 0) (q := 20) rfl rfl, if_bP, inL _ 0 2 (p := 0) (q := 2) rfl rfl, if_bP]
      by_cases v1 : 0 ≤ x1.toInt ∧ x1.toInt < (kS K : Int)
      · rw [if_pos v1]
        by_cases v2 : (0 ≤ x2.toInt ∧ x2.toInt < (4 : Nat)) ∧ (0 ≤ x3.toInt ∧ x3.toInt < (4 : Nat))
        · rw [if_pos v2]
          by_cases v5 : 0 ≤ x5.toInt ∧ x5.toInt ≤ 20
          · rw [if_pos v5, if_neg (fun v6 => hv ⟨v1, v2, v5, v6⟩)]
          · rw [if_neg v5]
        · rw [if_neg v2]
      · rw [if_neg v1]
