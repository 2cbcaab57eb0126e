/-! PURE D: log, wishes; rows of doings; ahead -/
theorem cut_s : ∀ l, l < 4 → ∀ h, h < 8 → F_X12_cut_0 (nI l) (nI h).toInt64 = (nI h).toInt64 := by decide +kernel
def lgr (g : Nat → Int64) (i : Nat) (q : Nat → QD) (k : Nat) : Nat → Int64 := fun j => if i ≤ j ∧ j < i + k then (nI (hueQ (q (j - i)))).toInt64 else g j
theorem lgr_0 (g : Nat → Int64) (i : Nat) (q : Nat → QD) : lgr g i q 0 = g := by funext j; unfold lgr; rw [if_neg (by omega)]
theorem lgr_s (g : Nat → Int64) (i : Nat) (q : Nat → QD) (k : Nat) : vp_updL (lgr g i q k) (i + k) (nI (hueQ (q k))).toInt64 = lgr g i q (k + 1) := by
  funext j
  unfold vp_updL lgr
  by_cases h : j = i + k
  · rw [if_pos h, if_pos (by omega), show j - i = k by omega]
  · rw [if_neg h]
    by_cases h2 : i ≤ j ∧ j < i + k
    · rw [if_pos h2, if_pos (by omega)]
    · rw [if_neg h2, if_neg (by omega)]
theorem log57 {σ : gS} {K : CS} {q : Nat → QD} {s i l n : Nat} (hK : okK K) (h0 : σ.1 10 0 = nI (kS K)) (hq : RQ (σ.1 13) (kS K) q) (hs : s < 4) (hl : σ.1 (56 + 2 * s) 0 = nI l) (hl4 : l < 4) (hi : i + kS K ≤ 24) :
    F_X11_log_57 fu (nI s) (nI i) 0 σ = some (nI (kS K), s2 σ (56 + 2 * s + 1) (lgr (σ.2 (56 + 2 * s + 1)) i q (kS K))) := by
  have h8 : kS K ≤ 8 := hK.1
  have key : ∀ (m k f : Nat), k + m = kS K → m < f → F_X11_log_57 f (nI s) (nI i) (nI k) (s2 σ (56 + 2 * s + 1) (lgr (σ.2 (56 + 2 * s + 1)) i q k)) = some (nI (kS K), s2 σ (56 + 2 * s + 1) (lgr (σ.2 (56 + 2 * s + 1)) i q (kS K))) := by
    intro m
    induction m with
    | zero =>
      intro k f hk hf
      obtain ⟨f, rfl⟩ : ∃ g, f = g + 1 := ⟨f - 1, by omega⟩
      rw [F_X11_log_57, s2_1, h0, if_pos (nI_le (by omega) (by omega)), show k = kS K by omega]
    | succ m ih =>
      intro k f hk hf
      obtain ⟨f, rfl⟩ : ∃ g, f = g + 1 := ⟨f - 1, by omega⟩
      have hk' : k < kS K := by omega
      have h7 : hueQ (q k) ≤ 7 := hueN_le _ _ _
      rw [F_X11_log_57, s2_1, h0, if_neg (nI_ge hk' (by omega)), ck_t (inR_t hs (by decide)), ck_t (inR_t (by omega) (by decide)), TN_nI (by omega), TN_nI (by omega), (hq k hk').1, hueI (hq k hk').2, ob_s, nI_add, putI (l := l) (by rw [s2_1]; exact hl) hl4 (by omega), ob2_s, cut_s l hl4 _ (by omega), sJ_s2', lgr_s, bd_e, show nI k + 1 = nI (k + 1) from nI_1 k]
      exact ih (k + 1) f (by omega) (by omega)
  have := key (kS K) 0 fu (by omega) (by unfold fu; omega)
  rw [lgr_0, s2_id] at this
  exact this
theorem log45 {σ : gS} {K : CS} {q : Nat → QD} {s i : Nat} (hK : okK K) (h0 : σ.1 83 0 = nI (kS K)) (hq : QM (σ.1 86) (kS K) q) (hs : s < 4) (hi : i + kS K ≤ 24) :
    F_X12_log_45 fu (nI s) (nI i) 0 σ = some (nI (kS K), s2 σ 94 (lgr (σ.2 94) (24 * s + i) q (kS K))) := by
  have h8 : kS K ≤ 8 := hK.1
  have key : ∀ (m k f : Nat), k + m = kS K → m < f → F_X12_log_45 f (nI s) (nI i) (nI k) (s2 σ 94 (lgr (σ.2 94) (24 * s + i) q k)) = some (nI (kS K), s2 σ 94 (lgr (σ.2 94) (24 * s + i) q (kS K))) := by
    intro m
    induction m with
    | zero =>
      intro k f hk hf
      obtain ⟨f, rfl⟩ : ∃ g, f = g + 1 := ⟨f - 1, by omega⟩
      rw [F_X12_log_45, s2_1, h0, if_pos (nI_le (by omega) (by omega)), show k = kS K by omega]
    | succ m ih =>
      intro k f hk hf
      obtain ⟨f, rfl⟩ : ∃ g, f = g + 1 := ⟨f - 1, by omega⟩
      have hk' : k < kS K := by omega
      obtain ⟨g1, g2, g3, g4, g5⟩ := hq k hk'
      rw [F_X12_log_45, s2_1, h0, if_neg (nI_ge hk' (by omega)), hueM (by omega) (by rw [s2_1]; exact g1) (by rw [s2_1]; exact g2) (by rw [s2_1]; exact g3) g5, ob_s, L24, pk_mul, nI_add, nI_add, ck_t (inR_t (by omega) (by decide)), TN_nI (by omega), sJ_s2', lgr_s, bd_e, bd_e, show nI k + 1 = nI (k + 1) from nI_1 k]
      exact ih (k + 1) f (by omega) (by omega)
  have := key (kS K) 0 fu (by omega) (by unfold fu; omega)
  rw [lgr_0, s2_id] at this
  exact this
theorem step_log {σ : gS} (hI : Inv σ) (x y z : Int32) : ∃ r σ1 σ2, F_X11_log_0 x y z σ = some (r, σ1) ∧ F_X12_log_0 x y z σ1 = some (r, σ2) ∧ Inv σ2 := by
  obtain ⟨⟨K, w, q, m, hC, hP⟩, hkp, hT, hR, hS4⟩ := id hI
  obtain ⟨hK, hS, hw, hq, hM, hwM, hqM, hd1, hd2, hm⟩ := id hC
  have h8 : kS K ≤ 8 := hK.1
  unfold F_X11_log_0 F_X12_log_0
  rw [stI hS.1 (by omega), if_bP, ishI, ilnI, if_bP, if_bP, ishM]
  by_cases hz : 0 < kS K
  · rw [if_pos hz]
    by_cases hx : 0 ≤ x.toInt ∧ x.toInt < (4 : Nat)
    · rw [if_pos hx]
      by_cases hy : 0 ≤ y.toInt ∧ y.toInt < (4 : Nat)
      · rw [if_pos hy]
        obtain ⟨s, hs, rfl⟩ := of_rng hx (by decide)
        obtain ⟨o, o1, o2, o3⟩ := ISs_o.mp (hS4 s hs)
        rw [ck_t (inR_t hs (by decide)), TN_nI (by omega), refI o1, bd_e, hS.1]
        have hk0 : 0 ≤ (nI (kS K)).toInt := by rw [nI_toInt (by omega)]; omega
        by_cases hf : rfz o y z (nI (kS K)) = 0
        · rw [if_pos hf]
          obtain ⟨l, n, rfl, rfl, h3, h4, h5⟩ := rfz_0 hf
          obtain ⟨a1, a2, a3, a4⟩ := o1
          obtain ⟨b1, b2, b3, b4⟩ := id o2
          simp only at a1 a2 a3 a4 b1 b2 b3 b4
          rw [nI_toInt (show kS K < 2 ^ 31 by omega)] at h5
          obtain ⟨i, hi, rfl⟩ := of_rng (x := z) (n := 25) (by omega) (by decide)
          rw [nI_toInt (show i < 2 ^ 31 by omega)] at h5
          rw [log57 (n := n) hK hS.1 hq hs a1 a3 (by omega)]
          let τ1 := s2 σ (56 + 2 * s + 1) (lgr (σ.2 (56 + 2 * s + 1)) i q (kS K))
          have e94 : τ1.2 94 = σ.2 94 := s2_ne (by omega)
          refine ⟨nI (kS K), τ1, s2 τ1 94 (lgr (σ.2 94) (24 * s + i) q (kS K)), rfl, ?_, ?_⟩
          · have e83 : τ1.1 83 0 = nI (kS K) := hM.1
            have o2' : shM τ1 s (some (l, n)) := o2
            rw [e83, if_neg (nI_ne0 hz (by omega)), if_bP, if_pos ⟨hx, hy⟩, foundM hs o2' _ _ _ hk0, ob_s, hf, if_pos (by decide), log45 hK e83 hqM hs (by omega), e94]
          · refine hI.sheet s (fun c _ _ _ => rfl) (fun c z1 z2 => ?_) (fun _ _ => ⟨rfl, rfl⟩) (fun j hj => ?_) hs (Or.inr ⟨l, n, a3, a4, a1, a2, b1, b2, fun j hj => ?_⟩)
            · rw [s2_ne z2]; exact s2_ne z1
            · rw [s2_eq]; unfold lgr; rw [if_neg (by omega)]
            · rw [s2_ne (by omega), s2_eq, s2_eq]
              unfold lgr
              by_cases hin : i ≤ j ∧ j < i + kS K
              · rw [if_pos hin, if_pos (by omega), show 24 * s + j - (24 * s + i) = j - i by omega]
              · rw [if_neg hin, if_neg (by omega)]; exact o3 (by simp) j hj
        · rw [if_neg hf]
          refine ⟨rfz o y z (nI (kS K)), σ, σ, rfl, ?_, hI⟩
          rw [hM.1, if_neg (nI_ne0 hz (by omega)), if_bP, if_pos ⟨hx, hy⟩, foundM hs o2 _ _ _ hk0, ob_s, if_neg (rfz_n hf)]
      · rw [if_neg hy]
        exact ⟨-1, σ, σ, rfl, by rw [hM.1, if_neg (nI_ne0 hz (by omega)), if_bP, if_neg (fun q => hy q.2)], hI⟩
    · rw [if_neg hx]
      exact ⟨-1, σ, σ, rfl, by rw [hM.1, if_neg (nI_ne0 hz (by omega)), if_bP, if_neg (fun q => hx q.1)], hI⟩
  · rw [if_neg hz]
    exact ⟨-1, σ, σ, rfl, by rw [hM.1, if_pos (by rw [show kS K = 0 by omega]; rfl)], hI⟩
theorem step_wishes {σ : gS} (hI : Inv σ) (x y z : Int32) : ∃ r, F_X11_wishes_0 x y z σ = some r ∧ F_X12_wishes_0 x y z σ = some r := by
  obtain ⟨⟨K, w, q, m, hC, hP⟩, hkp, hT, hR, hS4⟩ := id hI
  obtain ⟨hK, hS, hw, hq, hM, hwM, hqM, hd1, hd2, hm⟩ := id hC
  have h8 : kS K ≤ 8 := hK.1
  unfold F_X11_wishes_0 F_X12_wishes_0
  rw [stI hS.1 (by omega), if_bP, ishI, ilnI, if_bP, if_bP, ishM]
  by_cases hz : 0 < kS K
  · rw [if_pos hz, hM.1, if_neg (nI_ne0 hz (by omega)), if_bP]
    by_cases hx : 0 ≤ x.toInt ∧ x.toInt < (4 : Nat)
    · rw [if_pos hx]
      by_cases hy : 0 ≤ y.toInt ∧ y.toInt < (4 : Nat)
      · rw [if_pos hy, if_pos ⟨hx, hy⟩]
        obtain ⟨s, hs, rfl⟩ := of_rng hx (by decide)
        obtain ⟨o, o1, o2, o3⟩ := ISs_o.mp (hS4 s hs)
        have hk0 : 0 ≤ (nI (kS K)).toInt := by rw [nI_toInt (by omega)]; omega
        rw [ck_t (inR_t hs (by decide)), TN_nI (by omega), refI o1, bd_e, hS.1, foundM hs o2 _ _ _ hk0, ob_s]
        by_cases hf : rfz o y z (nI (kS K)) = 0
        · rw [if_pos hf, hf, if_pos (by decide)]
          obtain ⟨l, n, rfl, rfl, h3, h4, h5⟩ := rfz_0 hf
          obtain ⟨a1, a2, a3, a4⟩ := o1
          simp only at a1 a2 a3 a4
          rw [nI_toInt (show kS K < 2 ^ 31 by omega)] at h5
          obtain ⟨i, hi, rfl⟩ := of_rng (x := z) (n := 25) (by omega) (by decide)
          rw [nI_toInt (show i < 2 ^ 31 by omega)] at h5
          let P : Nat → Bool := fun k => decide (σ.2 94 (24 * s + i + k) = (nI (hueQ (q k))).toInt64)
          have eI : ∀ k, k < kS K → σ.2 (56 + 2 * s + 1) (i + k) = σ.2 94 (24 * s + i + k) := fun k hk => by rw [o3 (by simp) _ (by omega), Nat.add_assoc]
          refine ⟨nI (rsN (kS K) P), ?_, ?_⟩
          · have key : ∀ (m k f : Nat), k + m = kS K → m < f → F_X11_wishes_60 f (nI s) (nI i) (nI (rsN k P)) (nI k) σ = some (nI (rsN (kS K) P)) := by
              intro m
              induction m with
              | zero =>
                intro k f hk hf
                obtain ⟨f, rfl⟩ : ∃ g, f = g + 1 := ⟨f - 1, by omega⟩
                rw [F_X11_wishes_60, hS.1, if_pos (nI_le (by omega) (by omega)), show k = kS K by omega]
              | succ m ih =>
                intro k f hk hf
                obtain ⟨f, rfl⟩ : ∃ g, f = g + 1 := ⟨f - 1, by omega⟩
                have hk' : k < kS K := by omega
                have h := ih (k + 1) f (by omega) (by omega)
                rw [F_X11_wishes_60, hS.1, if_neg (nI_ge hk' (by omega)), nI_add, ck_t (inR_t hs (by decide)), ck_t (inR_t (by omega) (by decide)), ck_t (inR_t (by omega) (by decide)), TN_nI (show s < 2 ^ 31 by omega), TN_nI (show i + k < 2 ^ 31 by omega), TN_nI (show k < 2 ^ 31 by omega), (hq k hk').1, hueI (hq k hk').2, ob_s, eI k hk']
                simp only [F_X11_wishes_113, bd_e]
                rw [show nI k + 1 = nI (k + 1) from nI_1 k]
                by_cases hc : σ.2 94 (24 * s + i + k) = (nI (hueQ (q k))).toInt64
                · rw [if_pos ((lg_cmp_eq _ _).mpr hc), rsN_or _ (by omega)]
                  have e : rsN (k + 1) P = rsN k P + 2 ^ k := by rw [rsN, if_pos (show P k = true from decide_eq_true hc)]
                  rw [← e]; exact h
                · rw [if_neg (fun q => hc ((lg_cmp_eq _ _).mp q))]
                  have e : rsN (k + 1) P = rsN k P := by rw [rsN, if_neg (by show ¬ P k = true; rw [show P k = false from decide_eq_false hc]; decide)]; rfl
                  rw [← e]; exact h
            exact key (kS K) 0 fu (by omega) (by unfold fu; omega)
          · have key : ∀ (m k f : Nat), k + m = kS K → m < f → F_X12_wishes_48 f (nI s) (nI i) (nI (rsN k P)) (nI k) σ = some (nI (rsN (kS K) P)) := by
              intro m
              induction m with
              | zero =>
                intro k f hk hf
                obtain ⟨f, rfl⟩ : ∃ g, f = g + 1 := ⟨f - 1, by omega⟩
                rw [F_X12_wishes_48, hM.1, if_pos (nI_le (by omega) (by omega)), show k = kS K by omega]
              | succ m ih =>
                intro k f hk hf
                obtain ⟨f, rfl⟩ : ∃ g, f = g + 1 := ⟨f - 1, by omega⟩
                have hk' : k < kS K := by omega
                obtain ⟨g1, g2, g3, g4, g5⟩ := hqM k hk'
                have h := ih (k + 1) f (by omega) (by omega)
                rw [F_X12_wishes_48, hM.1, if_neg (nI_ge hk' (by omega)), hueM (by omega) g1 g2 g3 g5, ob_s, L24, pk_mul, nI_add, nI_add, ck_t (inR_t (by omega) (by decide)), TN_nI (by omega)]
                simp only [F_X12_wishes_97, bd_e]
                rw [show nI k + 1 = nI (k + 1) from nI_1 k]
                by_cases hc : σ.2 94 (24 * s + i + k) = (nI (hueQ (q k))).toInt64
                · rw [if_pos ((lg_cmp_eq _ _).mpr hc.symm), rsN_or _ (by omega)]
                  have e : rsN (k + 1) P = rsN k P + 2 ^ k := by rw [rsN, if_pos (show P k = true from decide_eq_true hc)]
                  rw [← e]; exact h
                · rw [if_neg (fun q => hc ((lg_cmp_eq _ _).mp q).symm), L0, nI_or, Nat.or_zero]
                  have e : rsN (k + 1) P = rsN k P := by rw [rsN, if_neg (by show ¬ P k = true; rw [show P k = false from decide_eq_false hc]; decide)]; rfl
                  rw [← e]; exact h
            exact key (kS K) 0 fu (by omega) (by unfold fu; omega)
        · rw [if_neg hf]
          exact ⟨_, rfl, by rw [if_neg (rfz_n hf)]⟩
      · rw [if_neg hy, if_neg (fun q => hy q.2)]
        exact ⟨-1, rfl, rfl⟩
    · rw [if_neg hx, if_neg (fun q => hx q.1)]
      exact ⟨-1, rfl, rfl⟩
  · rw [if_neg hz, hM.1, if_pos (by rw [show kS K = 0 by omega]; rfl)]
    exact ⟨-1, rfl, rfl⟩
/-! rows of doings -/
def rwQ (K : CS) (i : Nat) (D : Nat → Nat) : Nat → QD → QD
  | 0, q => q
  | n + 1, q => afQ K i (D n) (rwQ K i D n q)
theorem rwQ_ok {K : CS} {i : Nat} {D : Nat → Nat} {q : QD} (h : okQ q) : ∀ n, okQ (rwQ K i D n q)
  | 0 => h
  | n + 1 => afQ_ok (rwQ_ok h n)
theorem rowI {σ : gS} {K : CS} {c i n : Nat} {D : Nat → Nat} {q : QD} (hS : SC 10 σ K) (hK : okK K) (hi : i < kS K) (hq : okQ q) (hn : n ≤ 20) (hD : ∀ d, d < n → σ.1 c d = nI (D d) ∧ okD K (D d)) : F_X2_afterRow_0 c (nI i) (nI (cd q)) (nI n) σ = some (nI (cd (rwQ K i D n q))) := by
  have key : ∀ (m k f : Nat), k + m = n → m < f → F_X2_afterRow_6 c f (nI i) (nI n) (nI (cd (rwQ K i D k q))) (nI k) σ = some (nI (cd (rwQ K i D n q))) := by
    intro m
    induction m with
    | zero =>
      intro k f hk hf
      obtain ⟨f, rfl⟩ : ∃ g, f = g + 1 := ⟨f - 1, by omega⟩
      rw [F_X2_afterRow_6, if_pos (nI_le (by omega) (by omega)), show k = n by omega]
    | succ m ih =>
      intro k f hk hf
      obtain ⟨f, rfl⟩ : ∃ g, f = g + 1 := ⟨f - 1, by omega⟩
      obtain ⟨d1, d2⟩ := hD k (by omega)
      rw [F_X2_afterRow_6, if_neg (nI_ge (by omega) (by omega)), ck_t (inR_t (by omega) (by decide)), TN_nI (by omega), d1, afterI hS hK hi d2 (rwQ_ok hq k), ob_s, bd_e, show nI k + 1 = nI (k + 1) from nI_1 k]
      exact ih (k + 1) f (by omega) (by omega)
  exact key n 0 fu (by omega) (by unfold fu; omega)
/-- a sheet's items as doings -/
theorem t32 {v : Int64} {d : Nat} (h : v.toInt = d) (hd : d < 2 ^ 31) : v.toInt32 = nI d := by
  have e : v = lN d := by
    apply Int64.toInt_inj.mp
    rw [h, lN_toInt hd]
  rw [e, lN_i]
def dgs (f : Nat → Int32) (g : Nat → Int64) (i k : Nat) : Nat → Int32 := fun j => if j < k then (g (i + j)).toInt32 else f j
theorem dgs_0 (f : Nat → Int32) (g : Nat → Int64) (i : Nat) : dgs f g i 0 = f := by funext j; unfold dgs; rw [if_neg (by omega)]
theorem dgs_s (f : Nat → Int32) (g : Nat → Int64) (i k : Nat) : upd (dgs f g i k) k (g (i + k)).toInt32 = dgs f g i (k + 1) := by
  funext j
  unfold upd dgs
  by_cases h : j = k
  · rw [if_pos h, if_pos (by omega), h]
  · rw [if_neg h]
    by_cases h2 : j < k
    · rw [if_pos h2, if_pos (by omega)]
    · rw [if_neg h2, if_neg (by omega)]
theorem takeI {σ : gS} {K : CS} {s i n : Nat} (hS : SC 10 σ K) (hK : okK K) (hs : s < 4) (hi : i + n ≤ 24) (hn : n ≤ 20) :
    ∃ f', F_X11_takeDoings_49 fu (nI s) (nI i) (nI n) 0 σ = some (if ∀ d, d < n → okDi K (σ.2 (56 + 2 * s + 1) (i + d)).toInt then 0 else -2, s1 σ 81 f') ∧ ((∀ d, d < n → okDi K (σ.2 (56 + 2 * s + 1) (i + d)).toInt) → ∀ d, d < n → f' d = (σ.2 (56 + 2 * s + 1) (i + d)).toInt32) := by
  let g := σ.2 (56 + 2 * s + 1)
  have key : ∀ (m k f : Nat), k + m = n → m < f → (∀ d, d < k → okDi K (g (i + d)).toInt) → ∃ f', F_X11_takeDoings_49 f (nI s) (nI i) (nI n) (nI k) (s1 σ 81 (dgs (σ.1 81) g i k)) = some (if ∀ d, d < n → okDi K (g (i + d)).toInt then 0 else -2, s1 σ 81 f') ∧ ((∀ d, d < n → okDi K (g (i + d)).toInt) → ∀ d, d < n → f' d = (g (i + d)).toInt32) := by
    intro m
    induction m with
    | zero =>
      intro k f hk hf hall
      obtain ⟨f, rfl⟩ : ∃ g, f = g + 1 := ⟨f - 1, by omega⟩
      have hkn : k = n := by omega
      subst hkn
      refine ⟨dgs (σ.1 81) g i k, ?_, fun _ d hd => ?_⟩
      · rw [F_X11_takeDoings_49, if_pos (nI_le (by omega) (by omega)), if_pos hall]
      · unfold dgs; rw [if_pos hd]
    | succ m ih =>
      intro k f hk hf hall
      obtain ⟨f, rfl⟩ : ∃ g, f = g + 1 := ⟨f - 1, by omega⟩
      have hS' : SC 10 (s1 σ 81 (dgs (σ.1 81) g i k)) K := hS.keep (s1_ne (by decide)) (s1_ne (by decide)) (s1_ne (by decide)) (s1_ne (by decide))
      rw [F_X11_takeDoings_49, if_neg (nI_ge (by omega) (by omega)), nI_add, ck_t (inR_t hs (by decide)), ck_t (inR_t (by omega) (by decide)), TN_nI (show s < 2 ^ 31 by omega), TN_nI (show i + k < 2 ^ 31 by omega), bd_e, hdoI hS' hK, if_bP]
      show ∃ f', (if okDi K (g (i + k)).toInt then _ else _) = _ ∧ _
      by_cases hok : okDi K (g (i + k)).toInt
      · rw [if_pos hok, ck_t (inR_t (by omega) (by decide)), TN_nI (by omega), sI_s1']
        show ∃ f', bd (s1 σ 81 (upd (dgs (σ.1 81) g i k) k (g (i + k)).toInt32)) _ = _ ∧ _
        rw [dgs_s, bd_e, bd_e, show nI k + 1 = nI (k + 1) from nI_1 k]
        exact ih (k + 1) f (by omega) (by omega) (fun d hd => by
          by_cases h : d = k
          · rw [h]; exact hok
          · exact hall d (by omega))
      · rw [if_neg hok]
        refine ⟨dgs (σ.1 81) g i k, ?_, fun h => absurd (h k (by omega)) hok⟩
        rw [if_neg (fun h => hok (h k (by omega)))]
  have := key n 0 fu (by omega) (by unfold fu; omega) (fun d hd => absurd hd (by omega))
  rw [dgs_0, s1_id] at this
  exact this
theorem areM {σ : gS} {K : CS} {s i n : Nat} (hM : SM (σ.1 83) K) (hK : okK K) (hs : s < 4) (hi : i + n ≤ 24) :
    F_X12_areDoings_0 (nI s) (nI i) (nI n) σ = some (bI (decide (∀ d, d < n → okDi K (σ.2 94 (24 * s + i + d)).toInt))) := by
  let g := fun d => σ.2 94 (24 * s + i + d)
  have key : ∀ (m k f : Nat), k + m = n → m < f → F_X12_areDoings_6 f (nI s) (nI i) (nI n) (bI (decide (∀ d, d < k → okDi K (g d).toInt))) (nI k) σ = some (bI (decide (∀ d, d < n → okDi K (g d).toInt))) := by
    intro m
    induction m with
    | zero =>
      intro k f hk hf
      obtain ⟨f, rfl⟩ : ∃ g, f = g + 1 := ⟨f - 1, by omega⟩
      rw [F_X12_areDoings_6, if_pos (nI_le (by omega) (by omega)), ck_t (bI_nb _), show k = n by omega]
    | succ m ih =>
      intro k f hk hf
      obtain ⟨f, rfl⟩ : ∃ g, f = g + 1 := ⟨f - 1, by omega⟩
      have h := ih (k + 1) f (by omega) (by omega)
      rw [F_X12_areDoings_6, if_neg (nI_ge (by omega) (by omega)), if_bP]
      simp only [F_X12_areDoings_42, F_X12_areDoings_43, bd_e]
      rw [show nI k + 1 = nI (k + 1) from nI_1 k]
      by_cases hall : ∀ d, d < k → okDi K (g d).toInt
      · rw [if_pos hall, L24, pk_mul, nI_add, nI_add, ck_t (inR_t (by omega) (by decide)), TN_nI (by omega), idoM hM hK, ob_s, if_bP]
        by_cases hok : okDi K (σ.2 94 (24 * s + i + k)).toInt
        · rw [if_pos hok]
          have e : (1 : Int32) = bI (decide (∀ d, d < k + 1 → okDi K (g d).toInt)) := bI_t (fun d hd => by
            by_cases h : d = k
            · rw [h]; exact hok
            · exact hall d (by omega))
          rw [e]; exact h
        · rw [if_neg hok]
          have e : (0 : Int32) = bI (decide (∀ d, d < k + 1 → okDi K (g d).toInt)) := bI_f (fun h => hok (h k (by omega)))
          rw [e]; exact h
      · rw [if_neg hall]
        have e : (0 : Int32) = bI (decide (∀ d, d < k + 1 → okDi K (g d).toInt)) := bI_f (fun h => hall (fun d hd => h d (by omega)))
        rw [e]; exact h
  have := key n 0 fu (by omega) (by unfold fu; omega)
  have e : ∀ k, k = 0 → (1 : Int32) = bI (decide (∀ d, d < k → okDi K (g d).toInt)) := fun k hk => bI_t (fun d hd => absurd hd (by omega))
  rw [← e 0 rfl] at this
  exact this
