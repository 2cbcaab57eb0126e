/-! PURE F: decades -/
def nN (K : CS) : Nat := kD K + kT K + 2
def ndN (K : CS) (r : Nat) : Nat := if r < kD K then r else if r < kD K + kT K then 10 + r - kD K else 20 + r - kD K - kT K
theorem ndN_ok {K : CS} {r : Nat} (h : r < nN K) : okD K (ndN K r) := by
  unfold nN at h; unfold okD ndN
  split
  · left; assumption
  · split <;> omega
theorem nthI {σ : gS} {K : CS} {r : Nat} (hS : SC 10 σ K) (hK : okK K) (h : r < nN K) : F_X2_nthDoing_0 (nI r) σ = nI (ndN K r) := by
  have h4 : kD K ≤ 4 := hK.2.1
  have h3 : kT K ≤ 3 := hK.2.2.1
  unfold nN at h
  unfold F_X2_nthDoing_0 ndN
  rw [hS.2.1, hS.2.2.1, nI_add, if_nI_le (by omega) (by omega), if_nI_le (by omega) (by omega)]
  by_cases c1 : r < kD K
  · rw [if_neg (by omega), if_pos c1]
  · rw [if_pos (by omega), if_neg c1]
    by_cases c2 : r < kD K + kT K
    · rw [if_neg (by omega), if_pos c2, L10, nI_add, pk_sub (by omega)]
    · rw [if_pos (by omega), if_neg c2, L20, nI_add, pk_sub (by omega), pk_sub (by omega)]
theorem dofM {σ : gS} {K : CS} {r : Nat} (hS : SM (σ.1 83) K) (hK : okK K) (h : r < nN K) : F_X12_doingOf_0 (nI r) σ = some (nI (ndN K r)) := by
  have h4 : kD K ≤ 4 := hK.2.1
  have h3 : kT K ≤ 3 := hK.2.2.1
  unfold nN at h
  unfold F_X12_doingOf_0 ndN
  rw [bd_e, bd_e, hS.2.1, hS.2.2.1, nI_add, if_nI_le (by omega) (by omega), if_nI_le (by omega) (by omega)]
  by_cases c1 : r < kD K
  · rw [if_neg (by omega), if_pos c1]
  · rw [if_pos (by omega), if_neg c1]
    by_cases c2 : r < kD K + kT K
    · rw [if_neg (by omega), if_pos c2, L10, nI_add, pk_sub (by omega)]
    · rw [if_pos (by omega), if_neg c2, L20, nI_add, pk_sub (by omega), pk_sub (by omega)]
theorem dcI {σ : gS} {K : CS} (hS : SC 10 σ K) : F_X2_doingCount_0 σ = nI (nN K) := by
  unfold F_X2_doingCount_0 nN
  rw [hS.2.1, hS.2.2.1, nI_add, L2, nI_add]
theorem dtM {σ : gS} {K : CS} (hS : SM (σ.1 83) K) : F_X12_doingsThere_0 σ = some (nI (nN K)) := by
  unfold F_X12_doingsThere_0 nN
  rw [hS.2.1, hS.2.2.1, nI_add, L2, nI_add]
/-- one draw -/
def drA (a : Nat) : Nat := 16807 * a % 2147483647
def drR (K : CS) (a : Nat) : Nat := drA a / 4 % nN K
theorem drX {a : Nat} (ha : a < 2147483647) : (16807 * lN a) - (16807 * lN a) / 2147483647 * 2147483647 = lN (drA a) := by
  rw [show (16807 : Int64) = lN 16807 from rfl, show (2147483647 : Int64) = lN 2147483647 from rfl, lN_mul, pk_lRem (by omega) (by decide) (by decide)]
  rfl
theorem drI {K : CS} {a : Nat} (hK : okK K) : Int64.toInt32 ((lN (drA a) / 4) - (lN (drA a) / 4) / (Int32.toInt64 (nI (nN K))) * (Int32.toInt64 (nI (nN K)))) = nI (drR K a) := by
  have h4 : kD K ≤ 4 := hK.2.1
  have h3 : kT K ≤ 3 := hK.2.2.1
  have hd : drA a < 2147483647 := Nat.mod_lt _ (by decide)
  have hn : nN K ≤ 9 := by unfold nN; omega
  have hn0 : 0 < nN K := by unfold nN; omega
  rw [nI_l (by omega), show (4 : Int64) = lN 4 from rfl, pk_lDiv (by omega) (by decide) (by decide), pk_lRem (by omega) hn0 (by omega), lN_i]
  rfl
def dcR (K : CS) (w : Nat → Nat) : Nat → Nat → (Nat → QD) → Nat → (Nat → QD) × Nat
  | 0, _, q, s => (q, s)
  | n + 1, a, q, s => dcR K w n (drA a) (fun k => afQ K k (ndN K (drR K a)) (q k)) (s + rcN (kS K) (fun i => decide (hueQ (afQ K i (ndN K (drR K a)) (q i)) = w i)))
theorem drR_lt {K : CS} {a : Nat} : drR K a < nN K := Nat.mod_lt _ (by unfold nN; omega)
theorem drA_lt {a : Nat} : drA a < 2147483647 := Nat.mod_lt _ (by decide)
theorem drawI {K : CS} {w : Nat → Nat} (hK : okK K) {n : Nat} (hn : n ≤ 60) : ∀ (m t f a s : Nat) (q : Nat → QD) (τ : gS), t + m = n → m < f → a < 2147483647 → SC 10 τ K → RW (τ.1 12) (kS K) w → RQ (τ.1 79) (kS K) q → τ.1 77 3 = nI s →
    ∃ τ', F_X1_draw_27 f (nI n) (lN a) (nI t) τ = some τ' ∧ τ'.1 77 2 = nI (smN (kS K) (fun i => dkQ ((dcR K w m a q s).1 i))) ∧ τ'.1 77 3 = nI (dcR K w m a q s).2 ∧ τ'.2 = τ.2 ∧ ∀ c, c ≠ 77 → c ≠ 79 → τ'.1 c = τ.1 c := by
  intro m
  induction m with
  | zero =>
    intro t f a s q τ ht hf ha hS hw hq hs
    obtain ⟨f, rfl⟩ : ∃ g, f = g + 1 := ⟨f - 1, by omega⟩
    refine ⟨sI τ 77 2 (nI (smN (kS K) (fun i => dkQ (q i)))), ?_, sI_at _ _ _ _, by rw [sI_o (by decide)]; exact hs, rfl, fun c c1 c2 => sI_ne c1⟩
    rw [F_X1_draw_27, if_pos (nI_le (by omega) (by omega)), darkOfI hS hK hq, ob_s, bd_e]
  | succ m ih =>
    intro t f a s q τ ht hf ha hS hw hq hs
    obtain ⟨f, rfl⟩ : ∃ g, f = g + 1 := ⟨f - 1, by omega⟩
    have hn0 : ¬ Int32.toInt64 (nI (nN K)) = 0 := by
      have h4 : kD K ≤ 4 := hK.2.1
      have h3 : kT K ≤ 3 := hK.2.2.1
      have : nN K ≤ 9 := by unfold nN; omega
      have : 0 < nN K := by unfold nN; omega
      rw [nI_l (by omega), show (0 : Int64) = lN 0 from rfl, lN_eq (by omega) (by decide)]
      omega
    rw [F_X1_draw_27, if_neg (nI_ge (by omega) (by omega)), drX ha, bd_e, dcI hS, ck_t hn0, drI hK, bd_e, nthI hS hK drR_lt]
    have hap := applyI (c2 := 79) (c3 := 79) hS hK hq (ndN_ok (drR_lt (K := K) (a := a))) (by decide) (by decide) (by decide) (by decide)
    rw [hap, ob2_s]
    let q' : Nat → QD := fun k => afQ K k (ndN K (drR K a)) (q k)
    let τ1 := s1 τ 79 (apR (τ.1 79) K (ndN K (drR K a)) q (kS K))
    have hS1 : SC 10 τ1 K := hS.keep (s1_ne (by decide)) (s1_ne (by decide)) (s1_ne (by decide)) (s1_ne (by decide))
    have hw1 : RW (τ1.1 12) (kS K) w := by show RW ((s1 τ 79 _).1 12) _ _; rw [s1_ne (by decide)]; exact hw
    have hq1 : RQ (τ1.1 79) (kS K) q' := by show RQ ((s1 τ 79 _).1 79) _ _; rw [s1_eq]; exact apR_RQ (fun i hi => (hq i hi).2)
    show ∃ τ', ob (F_X2_rightCount_0 79 τ1) _ = _ ∧ _
    rw [rightCountI hS1 hK hw1 hq1, ob_s]
    have e3 : τ1.1 77 3 = nI s := by show (s1 τ 79 _).1 77 3 = _; rw [s1_ne (by decide)]; exact hs
    rw [e3, nI_add, bd_e, bd_e, show nI t + 1 = nI (t + 1) from nI_1 t]
    let s' := s + rcN (kS K) (fun i => decide (hueQ (q' i) = w i))
    let τ2 := sI τ1 77 3 (nI s')
    obtain ⟨τ', i1, i2, i3, i4, i5⟩ := ih (t + 1) f (drA a) s' q' τ2 (by omega) (by omega) drA_lt (hS1.keep (sI_ne (by decide)) (sI_ne (by decide)) (sI_ne (by decide)) (sI_ne (by decide))) (by show RW ((sI τ1 77 3 _).1 12) _ _; rw [sI_ne (by decide)]; exact hw1) (by show RQ ((sI τ1 77 3 _).1 79) _ _; rw [sI_ne (by decide)]; exact hq1) (sI_at _ _ _ _)
    refine ⟨τ', i1, i2, i3, by rw [i4]; rfl, fun c c1 c2 => ?_⟩
    rw [i5 c c1 c2]
    show (sI (s1 τ 79 _) 77 3 _).1 c = _
    rw [sI_ne c1, s1_ne c2]
theorem drawM {K : CS} {w : Nat → Nat} (hK : okK K) {n : Nat} (hn : n ≤ 60) (v : Int32) : ∀ (m t f a s : Nat) (q : Nat → QD) (τ : gS), t + m = n → m < f → a < 2147483647 → SM (τ.1 83) K → WM (τ.1 87) (kS K) w → QM (τ.1 87) (kS K) q →
    ∃ f', F_X12_decades_62 f (nI n) v (lN a) (nI s) (nI t) τ = some (if v = 0 then nI (smN (kS K) (fun i => dkQ ((dcR K w m a q s).1 i))) else nI (dcR K w m a q s).2, s1 τ 87 f') := by
  intro m
  induction m with
  | zero =>
    intro t f a s q τ ht hf ha hS hw hq
    obtain ⟨f, rfl⟩ : ∃ g, f = g + 1 := ⟨f - 1, by omega⟩
    refine ⟨τ.1 87, ?_⟩
    rw [F_X12_decades_62, if_pos (nI_le (by omega) (by omega)), darkAllM hS hK hq, ob_s, s1_id]
    by_cases hv : v = 0
    · rw [if_pos hv, if_pos hv]; rfl
    · rw [if_neg hv, if_neg hv]; rfl
  | succ m ih =>
    intro t f a s q τ ht hf ha hS hw hq
    obtain ⟨f, rfl⟩ : ∃ g, f = g + 1 := ⟨f - 1, by omega⟩
    have h8 : kS K ≤ 8 := hK.1
    have hn0 : ¬ Int32.toInt64 (nI (nN K)) = 0 := by
      have h4 : kD K ≤ 4 := hK.2.1
      have h3 : kT K ≤ 3 := hK.2.2.1
      have : nN K ≤ 9 := by unfold nN; omega
      have : 0 < nN K := by unfold nN; omega
      rw [nI_l (by omega), show (0 : Int64) = lN 0 from rfl, lN_eq (by omega) (by decide)]
      omega
    rw [F_X12_decades_62, if_neg (nI_ge (by omega) (by omega)), drX ha, bd_e, dtM hS, ob_s, ck_t hn0, drI hK, dofM hS hK drR_lt, ob_s, doesAllM hS hK (by decide) (ndN_ok drR_lt) hq, ob_s]
    let q' : Nat → QD := fun k => afQ K k (ndN K (drR K a)) (q k)
    let τ1 := s1 τ 87 (mrR (τ.1 87) q' (kS K))
    have hS1 : SM (τ1.1 83) K := by show SM ((s1 τ 87 _).1 83) K; rw [s1_ne (by decide)]; exact hS
    have hq1 : QM (τ1.1 87) (kS K) q' := by show QM ((s1 τ 87 _).1 87) _ _; rw [s1_eq]; exact mrR_QM h8 (fun i hi => afQ_ok (hq i hi).2.2.2.2)
    have hw1 : WM (τ1.1 87) (kS K) w := by
      intro i hi
      show (s1 τ 87 _).1 87 (32 + i) = _ ∧ _
      rw [s1_eq, mrR_hi (by omega)]; exact hw i hi
    show ∃ f', ob (F_X12_rightOn_0 87 τ1) _ = _
    rw [rightOnM hS1 hK hw1 hq1, ob_s, bitsM _ (rs_256 _ h8), ob_s, nI_add, bd_e, bd_e, show nI t + 1 = nI (t + 1) from nI_1 t]
    obtain ⟨f', i1⟩ := ih (t + 1) f (drA a) (s + rcN (kS K) (fun i => decide (hueQ (q' i) = w i))) q' τ1 (by omega) (by omega) drA_lt hS1 hw1 hq1
    refine ⟨f', ?_⟩
    have e : s1 τ1 87 f' = s1 τ 87 f' := s1_s1 _ _ _ _
    rw [e] at i1
    exact i1
theorem step_decades {σ : gS} (hI : Inv σ) (x y z : Int32) : ∃ r σ1 σ2, F_X11_decades_0 x y z σ = some (r, σ1) ∧ F_X12_decades_0 x y z σ1 = some (r, σ2) ∧ Inv σ2 := by
  obtain ⟨⟨K, w, q, m, hC, hP⟩, hkp, hT, hR, hS4⟩ := id hI
  obtain ⟨hK, hS, hw, hq, hM, hwM, hqM, hd1, hd2, hm⟩ := id hC
  have h8 : kS K ≤ 8 := hK.1
  by_cases hv : (0 ≤ x.toInt ∧ x.toInt ≤ 60) ∧ (1 ≤ y.toInt ∧ y.toInt ≤ 999999) ∧ (0 ≤ z.toInt ∧ z.toInt ≤ 1)
  · obtain ⟨v1, v2, v3⟩ := hv
    obtain ⟨n, hn, rfl⟩ := of_rng (x := x) (n := 61) (by omega) (by decide)
    obtain ⟨a, ha, rfl⟩ := of_rng (x := y) (n := 1000000) (by omega) (by decide)
    rw [nI_toInt (by omega)] at v2
    have cl : F_X11_decades_0 (nI n) (nI a) z σ = if 0 < kS K then (ob (F_X1_draw_0 (nI n) (nI a) σ) (fun σ55 => if z = 0 then (some (σ55.1 77 2, σ55)) else (some (σ55.1 77 3, σ55)))) else some (-2, σ) := by
      unfold F_X11_decades_0
      rw [if_neg (fun q => by rw [lt0] at q; omega), if_neg (fun q => by rw [show (60 : Int32) = nI 60 from rfl, nI_ltI (by decide) (by omega)] at q; omega), if_neg (fun q => by rw [L1, nI_ltI (by omega) (by decide)] at q; omega), if_neg (fun q => by rw [show (999999 : Int32) = nI 999999 from rfl, nI_ltI (by decide) (by omega)] at q; omega), if_neg (fun q => by rw [lt0] at q; omega), if_pos (by rw [L1, le_lit (by decide)]; exact v3.2), stI hS.1 (by omega), if_bP]
    have md : ∀ τ : gS, F_X12_decades_0 (nI n) (nI a) z τ = if τ.1 83 0 = 0 then some (-2, τ) else ob (F_X12_laysAside_0 τ) (fun σ49 => F_X12_decades_62 fu (nI n) z (Int32.toInt64 (nI a)) 0 0 σ49) := by
      intro τ
      unfold F_X12_decades_0
      rw [inL _ 0 60 (p := 0) (q := 60) rfl rfl, if_bP, if_pos v1, inL _ 1 999999 (p := 1) (q := 999999) rfl rfl, if_bP, if_pos (by rw [nI_toInt (by omega)]; exact v2), inL _ 0 1 (p := 0) (q := 1) rfl rfl, if_bP, if_pos v3]
      rfl
    by_cases hz : 0 < kS K
    · rw [if_pos hz] at cl
      let τ0 := sI (cI σ 13 0 79 0 8) 77 3 0
      have kτ : ∀ c, c ≠ 77 → c ≠ 79 → τ0.1 c = σ.1 c := fun c c1 c2 => by
        show (sI (cI σ 13 0 79 0 8) 77 3 0).1 c = _
        rw [sI_ne c1, cI_ne c2]
      have hS0 : SC 10 τ0 K := hS.keep (kτ _ (by decide) (by decide)) (kτ _ (by decide) (by decide)) (kτ _ (by decide) (by decide)) (kτ _ (by decide) (by decide))
      have hq0 : RQ (τ0.1 79) (kS K) q := by
        show RQ ((sI (cI σ 13 0 79 0 8) 77 3 0).1 79) _ _
        rw [sI_ne (by decide), cI_eq]
        refine hq.congr h8 (fun k hk => ?_)
        rw [show (0 : Int32).toNatClampNeg = 0 from rfl, show (8 : Int32).toNatClampNeg = 8 from rfl]
        have := cpy_in (f := σ.1 13) (g := σ.1 79) (i := 0) (j := 0) hk
        rw [Nat.zero_add] at this
        exact this
      obtain ⟨τ', i1, i2, i3, i4, i5⟩ := drawI (w := w) hK (n := n) (by omega) n 0 fu a 0 q τ0 (by omega) (by unfold fu; omega) (by omega) hS0 (by rw [kτ 12 (by decide) (by decide)]; exact hw) hq0 (sI_at _ _ _ _)
      have hdr : F_X1_draw_0 (nI n) (nI a) σ = some τ' := by
        unfold F_X1_draw_0
        rw [ck_t (by decide), bd_e, bd_e, bd_e, nI_l (by omega)]
        exact i1
      rw [hdr, ob_s, i2, i3] at cl
      have agc : Ag σ τ' := by
        refine ⟨fun c hc => ?_, fun c hc => by rw [i4]; rfl, ?_, ?_, ?_, ?_⟩
        · rw [i5 c (by omega) (by omega), kτ c (by omega) (by omega)]
        all_goals rw [i5 _ (by decide) (by decide), kτ _ (by decide) (by decide)]
      have k83 : τ'.1 83 = σ.1 83 := agc.1 83 (by omega)
      have k86 : τ'.1 86 = σ.1 86 := agc.1 86 (by omega)
      let υ := s1 τ' 87 (va_cpy (τ'.1 86) (τ'.1 87) 0 0 40)
      have hυ : ∀ k, k < 40 → υ.1 87 k = σ.1 86 k := fun k hk => by
        show (s1 τ' 87 _).1 87 k = _
        rw [s1_eq, aside_at τ' hk, k86]
      obtain ⟨f', j1⟩ := drawM (K := K) (w := w) hK (n := n) (by omega) z n 0 fu a 0 q υ (by omega) (by unfold fu; omega) (by omega) (by show SM ((s1 τ' 87 _).1 83) K; rw [s1_ne (by decide), k83]; exact hM) (hwM.congr h8 hυ) (hqM.congr h8 (fun k hk => hυ k (by omega)))
      have m1 := md τ'
      rw [k83, hM.1, if_neg (nI_ne0 hz (by omega)), asideM, ob_s, nI_l (by omega)] at m1
      have m2 := m1.trans j1
      have ag2 : Ag τ' (s1 υ 87 f') := (Ag_s1 (by decide)).tr (Ag_s1 (by decide))
      by_cases hz0 : z = 0
      · rw [if_pos hz0] at cl m2
        exact ⟨_, _, _, cl, m2, (hI.keep agc).keep ag2⟩
      · rw [if_neg hz0] at cl m2
        exact ⟨_, _, _, cl, m2, (hI.keep agc).keep ag2⟩
    · rw [if_neg hz] at cl
      have m1 := md σ
      rw [hM.1, if_pos (by rw [show kS K = 0 by omega]; rfl)] at m1
      exact ⟨_, _, _, cl, m1, hI⟩
  · refine ⟨-1, σ, σ, ?_, ?_, hI⟩
    · unfold F_X11_decades_0
      by_cases a1 : x < 0
      · rw [if_pos a1]
      · rw [if_neg a1]
        by_cases a2 : 60 < x
        · rw [if_pos a2]
        · rw [if_neg a2]
          by_cases a3 : y < 1
          · rw [if_pos a3]
          · rw [if_neg a3]
            by_cases a4 : 999999 < y
            · rw [if_pos a4]
            · rw [if_neg a4]
              by_cases a5 : z < 0
              · rw [if_pos a5]
              · rw [if_neg a5, if_neg (fun q => hv ?_)]
                rw [lt0] at a1 a5
                rw [Int32.lt_iff_toInt_lt] at a2 a3 a4
                rw [Int32.le_iff_toInt_le] at q
                rw [show (60 : Int32).toInt = 60 from rfl] at a2
                rw [show (1 : Int32).toInt = 1 from rfl] at a3 q
                rw [show (999999 : Int32).toInt = 999999 from rfl] at a4
                omega
    · unfold F_X12_decades_0
      rw [inL _ 0 60 (p := 0) (q := 60) rfl rfl, if_bP, inL _ 1 999999 (p := 1) (q := 999999) rfl rfl, if_bP, inL _ 0 1 (p := 0) (q := 1) rfl rfl, if_bP]
      by_cases b1 : 0 ≤ x.toInt ∧ x.toInt ≤ 60
      · rw [if_pos b1]
        by_cases b2 : 1 ≤ y.toInt ∧ y.toInt ≤ 999999
        · rw [if_pos b2, if_neg (fun b3 => hv ⟨b1, b2, b3⟩)]
        · rw [if_neg b2]
      · rw [if_neg b1]
