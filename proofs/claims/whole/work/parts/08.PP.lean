/-! PURE P: plan: the step -/
theorem pl52 {K : CS} {w : Nat → Nat} {q : Nat → QD} {n : Nat} {x2 : Int32} (hK : okK K) (hn : n ≤ 4) : ∀ (m s f : Nat) (τ : gS), s + m = n → m < f → SM (τ.1 83) K → WM (τ.1 86) (kS K) w → QM (τ.1 86) (kS K) q →
    ∃ g, F_X12_plan_52 f (nI n) x2 (nI (nN K)) (nI (mB K w q s).1) (nI (mB K w q s).2.1) (nI (mB K w q s).2.2) (nI (nN K ^ (s + 1))) (nI (s + 1)) τ = (if 0 ≤ x2 then (if x2 < nI (mB K w q n).2.2 then (bd (nI (mB K w q n).2.2 - 1) (fun x192 => F_X12_plan_194 fu x2 (nI (nN K)) (nI (mB K w q n).2.1) x192 (s1 τ 87 g))) else (some ((-4), s1 τ 87 g))) else (if x2 = (-2) then (some (nI (mB K w q n).1, s1 τ 87 g)) else (some (nI (mB K w q n).2.2, s1 τ 87 g)))) := by
  obtain ⟨n2, n9⟩ := nN9 hK
  have h8 : kS K ≤ 8 := hK.1
  intro m
  induction m with
  | zero =>
    intro s f τ hs hf hM hw hq
    obtain ⟨f, rfl⟩ : ∃ z, f = z + 1 := ⟨f - 1, by omega⟩
    have hsn : s = n := by omega
    subst hsn
    refine ⟨τ.1 87, ?_⟩
    rw [F_X12_plan_52, if_pos (nI_lt (by omega) (by omega)), s1_id]
  | succ m ih =>
    intro s f τ hs hf hM hw hq
    obtain ⟨f, rfl⟩ : ∃ z, f = z + 1 := ⟨f - 1, by omega⟩
    have hle := mB_le (w := w) (q := q) hK s
    have hp := pw4 (s := s + 1) n9 (by omega)
    obtain ⟨g, r⟩ := pl61 (K := K) (w := w) (q := q) (s := s + 1) (F_X12_plan_52 f) (nI n) x2 hK (by omega) (nN K ^ (s + 1)) 0 fu (mB K w q s) τ (by omega) (by unfold fu; omega) (by omega) hM hw hq
    obtain ⟨g', z⟩ := ih (s + 1) f (s1 τ 87 g) (by omega) (by omega) (by rw [s1_ne (by decide)]; exact hM) (by rw [s1_ne (by decide)]; exact hw) (by rw [s1_ne (by decide)]; exact hq)
    refine ⟨g', ?_⟩
    rw [F_X12_plan_52, if_neg (fun e => by rw [nI_ltI (by omega) (by omega)] at e; omega)]
    refine Eq.trans r ?_
    rw [s1_s1] at z
    exact z
theorem pl0 {σ : gS} {K : CS} {w : Nat → Nat} {q : Nat → QD} {n : Nat} {x2 : Int32} (hK : okK K) (hn : n ≤ 4) (hM : SM (σ.1 83) K) (hw : WM (σ.1 86) (kS K) w) (hq : QM (σ.1 86) (kS K) q) :
    ∃ g, F_X12_plan_52 fu (nI n) x2 (nI (nN K)) (-1) 0 0 1 0 σ = (if 0 ≤ x2 then (if x2 < nI (mB K w q n).2.2 then (bd (nI (mB K w q n).2.2 - 1) (fun x192 => F_X12_plan_194 fu x2 (nI (nN K)) (nI (mB K w q n).2.1) x192 (s1 σ 87 g))) else (some ((-4), s1 σ 87 g))) else (if x2 = (-2) then (some (nI (mB K w q n).1, s1 σ 87 g)) else (some (nI (mB K w q n).2.2, s1 σ 87 g)))) := by
  obtain ⟨n2, n9⟩ := nN9 hK
  have h8 : kS K ≤ 8 := hK.1
  rw [fu_s 1]
  show ∃ g, F_X12_plan_52 (19999 + 1) (nI n) x2 (nI (nN K)) (-1) 0 0 1 0 σ = _
  rw [F_X12_plan_52, if_neg (nn0 (by omega))]
  rw [show F_X12_plan_61 (F_X12_plan_52 19999) fu = F_X12_plan_61 (F_X12_plan_52 19999) (19998 + 2) from rfl]
  rw [F_X12_plan_61, if_neg (by decide), asideM, ob_s, ck_t (nI_ne0 (by omega) (by omega)), L1, pk_div (by decide) (by omega) (by omega), bd_e]
  have at87 : ∀ k, k < 40 → va_cpy (σ.1 86) (σ.1 87) 0 0 40 k = σ.1 86 k := fun k hk => aside_at σ hk
  obtain ⟨g, r1⟩ := pl78 (σ := σ) (w := w) (q := q) (s := 0) (c := 0) (F_X12_plan_52 19999) (F_X12_plan_61 (F_X12_plan_52 19999) (19998 + 1)) (nI n) x2 (-1) 0 0 hK (by omega) (by rw [Nat.pow_zero]; decide) hM 0 fu (va_cpy (σ.1 86) (σ.1 87) 0 0 40) (Nat.le_refl _) (by unfold fu; omega) (fun i hi => by rw [at87 _ (by omega)]; exact hw i hi) (hq.congr h8 (fun k hk => at87 k (by omega)))
  rw [Nat.pow_zero] at r1
  have r1' := r1
  have hrg := rgN_le (w := w) (q := q) hK 0 0
  rw [if_neg (fun e => by rw [Int32.le_iff_toInt_le, nI_toInt (by omega), show (-1 : Int32).toInt = -1 from rfl] at e; omega)] at r1'
  have r2 : F_X12_plan_78 (F_X12_plan_52 19999) (F_X12_plan_61 (F_X12_plan_52 19999) (19998 + 1)) fu (nI n) x2 (nI (nN K)) (-1) 0 0 (nI 1) 0 0 (nI (1 / nN K)) (s1 σ 87 (va_cpy (σ.1 86) (σ.1 87) 0 0 40)) = _ := r1'
  have hM' : SM ((s1 σ 87 g).1 83) K := by rw [s1_ne (by decide)]; exact hM
  have hw' : WM ((s1 σ 87 g).1 86) (kS K) w := by rw [s1_ne (by decide)]; exact hw
  have hq' : QM ((s1 σ 87 g).1 86) (kS K) q := by rw [s1_ne (by decide)]; exact hq
  obtain ⟨g', z⟩ := pl52 (w := w) (q := q) (x2 := x2) hK hn n 0 19999 (s1 σ 87 g) (by omega) (by omega) hM' hw' hq'
  refine ⟨g', ?_⟩
  refine Eq.trans r2 ?_
  rw [F_X12_plan_61, if_pos (show nI 1 ≤ nI (0 + 1) by decide), bd_e, bd_e, pk_mul]
  rw [s1_s1] at z
  rw [Nat.zero_add, Nat.pow_one] at z
  rw [Nat.one_mul]
  exact z
theorem step_plan {σ : gS} (hI : Inv σ) (x1 x2 : Int32) : ∃ r σ1 σ2, F_X11_plan_0 x1 x2 σ = some (r, σ1) ∧ F_X12_plan_0 x1 x2 σ1 = some (r, σ2) ∧ Inv σ2 := by
  obtain ⟨⟨K, w, q, m, ⟨hK, hS, hw, hq, hM, hwM, hqM, -, -, -⟩, -⟩, -⟩ := id hI
  have h8 : kS K ≤ 8 := hK.1
  obtain ⟨n2, n9⟩ := nN9 hK
  have c4 : ∀ x : Int32, 4 < x ↔ 4 < x.toInt := fun x => by rw [Int32.lt_iff_toInt_lt]; exact Iff.rfl
  have cm2 : (-2 ≤ x2) ↔ -2 ≤ x2.toInt := by rw [Int32.le_iff_toInt_le]; exact Iff.rfl
  by_cases v1 : 0 ≤ x1.toInt ∧ x1.toInt ≤ 4
  · by_cases v2 : -2 ≤ x2.toInt
    · obtain ⟨n, hn, rfl⟩ := of_rng (x := x1) (n := 5) (by omega) (by decide)
      by_cases hz : kS K = 0
      · refine ⟨-2, σ, σ, ?_, ?_, hI⟩
        · unfold F_X11_plan_0
          rw [if_neg (nn0 (by omega)), if_neg (by rw [c4]; omega), if_pos (cm2.mpr v2), stI hS.1 (by omega), if_bP, if_neg (by omega)]
        · unfold F_X12_plan_0
          rw [inL _ 0 4 (p := 0) (q := 4) rfl rfl, if_bP, if_pos v1, if_pos (cm2.mpr v2), hM.1, hz, if_pos (by decide)]
      · obtain ⟨τ, r1, ⟨j1, j2, j3⟩, r3⟩ := searchI (n := n) hK (by omega) hS hw hq
        have hMτ : SM (τ.1 83) K := by rw [r3.1 83 (by decide)]; exact hM
        obtain ⟨g, z⟩ := pl0 (σ := τ) (w := w) (q := q) (n := n) (x2 := x2) hK (by omega) hMτ (by rw [r3.1 86 (by decide)]; exact hwM) (by rw [r3.1 86 (by decide)]; exact hqM)
        have hle := mB_le (w := w) (q := q) hK n
        have hl := mB_l (K := K) (w := w) (q := q) n
        have hc := mB_c (K := K) (w := w) (q := q) n
        have hp := pw4 (s := n) n9 (by omega)
        have cl : F_X11_plan_0 (nI n) x2 σ = if x2 = (-2) then (some (nI (mB K w q n).1, τ)) else (if x2 = (-1) then (some (nI (mB K w q n).2.2, τ)) else (if nI (mB K w q n).2.2 ≤ x2 then (some ((-4), τ)) else (ck (inR x2 4) (some (τ.1 65 (Int32.toNatClampNeg x2), τ))))) := by
          unfold F_X11_plan_0
          rw [if_neg (nn0 (by omega)), if_neg (by rw [c4]; omega), if_pos (cm2.mpr v2), stI hS.1 (by omega), if_bP, if_pos (by omega), r1, ob_s, j1, j2]
        have md : F_X12_plan_0 (nI n) x2 τ = (if 0 ≤ x2 then (if x2 < nI (mB K w q n).2.2 then (bd (nI (mB K w q n).2.2 - 1) (fun x192 => F_X12_plan_194 fu x2 (nI (nN K)) (nI (mB K w q n).2.1) x192 (s1 τ 87 g))) else (some ((-4), s1 τ 87 g))) else (if x2 = (-2) then (some (nI (mB K w q n).1, s1 τ 87 g)) else (some (nI (mB K w q n).2.2, s1 τ 87 g)))) := by
          rw [← z]
          unfold F_X12_plan_0
          rw [inL _ 0 4 (p := 0) (q := 4) rfl rfl, if_bP, if_pos v1, if_pos (cm2.mpr v2), hMτ.1, if_neg (nI_ne0 (by omega) (by omega)), dtM hMτ, ob_s]
        have hI2 : Inv (s1 τ 87 g) := hI.keep (r3.ag.tr (Ag_s1 (by decide)))
        have hMg : SM ((s1 τ 87 g).1 83) K := by rw [s1_ne (by decide)]; exact hMτ
        by_cases e2 : x2 = -2
        · rw [if_pos e2] at cl
          rw [e2, if_neg (by decide), if_pos rfl] at md
          exact ⟨_, _, _, cl, by rw [e2]; exact md, hI2⟩
        · rw [if_neg e2] at cl
          by_cases e1 : x2 = -1
          · rw [if_pos e1] at cl
            rw [e1, if_neg (by decide), if_neg (by decide)] at md
            exact ⟨_, _, _, cl, by rw [e1]; exact md, hI2⟩
          · rw [if_neg e1] at cl
            have p2 : 0 ≤ x2.toInt := by
              have h1 : x2.toInt ≠ -1 := fun e => e1 (Int32.toInt_inj.mp (by rw [e]; rfl))
              have h2 : x2.toInt ≠ -2 := fun e => e2 (Int32.toInt_inj.mp (by rw [e]; rfl))
              omega
            rw [if_pos (show (0 : Int32) ≤ x2 by rw [Int32.le_iff_toInt_le]; exact p2)] at md
            by_cases hx : nI (mB K w q n).2.2 ≤ x2
            · rw [if_pos hx] at cl
              rw [if_neg (fun e => by rw [nle (by omega)] at hx; rw [Int32.lt_iff_toInt_lt, nI_toInt (by omega)] at e; omega)] at md
              exact ⟨_, _, _, cl, md, hI2⟩
            · have hx' : x2.toInt < (mB K w q n).2.2 := by rw [nle (by omega)] at hx; omega
              obtain ⟨o, ho, rfl⟩ := of_rng (x := x2) ⟨p2, hx'⟩ (by omega)
              rw [if_neg hx, ck_t (inR_t (by omega) (by decide)), TN_nI (by omega), j3 o ho] at cl
              rw [if_pos (nI_lt ho (by omega)), bd_e, L1, pk_sub (by omega)] at md
              have := pl194 hMg hK o ((mB K w q n).2.2 - 1 - o) fu (mB K w q n).2.1 (by unfold fu; omega) (by omega) (by omega)
              rw [show o + ((mB K w q n).2.2 - 1 - o) = (mB K w q n).2.2 - 1 by omega] at this
              rw [this] at md
              exact ⟨_, _, _, cl, md, hI2⟩
    · refine ⟨-1, σ, σ, ?_, ?_, hI⟩
      · unfold F_X11_plan_0
        rw [if_neg (by rw [lt0]; omega), if_neg (by rw [c4]; omega), if_neg (fun e => v2 (cm2.mp e))]
      · unfold F_X12_plan_0
        rw [inL _ 0 4 (p := 0) (q := 4) rfl rfl, if_bP, if_pos v1, if_neg (fun e => v2 (cm2.mp e))]
  · refine ⟨-1, σ, σ, ?_, ?_, hI⟩
    · unfold F_X11_plan_0
      by_cases d : x1 < 0
      · rw [if_pos d]
      · rw [if_neg d, if_pos (by rw [lt0] at d; rw [c4]; omega)]
    · unfold F_X12_plan_0
      rw [inL _ 0 4 (p := 0) (q := 4) rfl rfl, if_bP, if_neg v1]
