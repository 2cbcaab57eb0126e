/-! PURE O: plan: the steps -/
def mB (K : CS) (w : Nat → Nat) (q : Nat → QD) : Nat → B3
  | 0 => (rgN K w q 0 0, 0, 0)
  | s + 1 => fB (rgN K w q (s + 1)) (s + 1) (nN K ^ (s + 1)) 0 (mB K w q s)
theorem rgN_le {K : CS} {w : Nat → Nat} {q : Nat → QD} (hK : okK K) (s c : Nat) : rgN K w q s c ≤ kS K := rcN_le hK.1 _
theorem mB_le {K : CS} {w : Nat → Nat} {q : Nat → QD} (hK : okK K) : ∀ s, (mB K w q s).1 ≤ kS K
  | 0 => rgN_le hK 0 0
  | s + 1 => fB_le (fun c => rgN_le hK (s + 1) c) _ _ _ (mB_le hK s)
theorem mB_dom {K : CS} {w : Nat → Nat} {q : Nat → QD} : ∀ s c, c < nN K ^ s → rgN K w q s c ≤ (mB K w q s).1
  | 0, c, h => by rw [Nat.pow_zero] at h; rw [show c = 0 by omega]; exact Nat.le_refl _
  | s + 1, c, h => by have := (fB_ge (rgN K w q (s + 1)) (s + 1) (nN K ^ (s + 1)) 0 (mB K w q s)).2 c h; rw [Nat.zero_add] at this; exact this
theorem mB_l {K : CS} {w : Nat → Nat} {q : Nat → QD} : ∀ s, (mB K w q s).2.2 ≤ s
  | 0 => Nat.le_refl _
  | s + 1 => fB_l _ _ _ (Nat.le_succ_of_le (mB_l s))
theorem mB_c {K : CS} {w : Nat → Nat} {q : Nat → QD} : ∀ s, (mB K w q s).2.1 < nN K ^ s
  | 0 => Nat.one_pos
  | s + 1 => fB_c _ _ _ (Nat.lt_of_lt_of_le (mB_c s) (Nat.pow_le_pow_right (nN_pos K) (Nat.le_succ s))) (by omega)
theorem mB_top {K : CS} {w : Nat → Nat} {q : Nat → QD} (hK : okK K) {s : Nat} (h : kS K ≤ (mB K w q s).1) : ∀ m, mB K w q (s + m) = mB K w q s
  | 0 => rfl
  | m + 1 => by
    show fB (rgN K w q (s + m + 1)) (s + m + 1) (nN K ^ (s + m + 1)) 0 (mB K w q (s + m)) = _
    rw [mB_top hK h m]
    exact fB_id _ _ _ _ _ (fun x hx => Nat.le_trans (rgN_le hK _ _) h)
theorem nN9 {K : CS} (hK : okK K) : 2 ≤ nN K ∧ nN K ≤ 9 := by
  have h4 : kD K ≤ 4 := hK.2.1
  have h3 : kT K ≤ 3 := hK.2.2.1
  unfold nN; omega
theorem pw9 {b s : Nat} (hb : b ≤ 9) (hs : s ≤ 5) : b ^ s ≤ 59049 := Nat.le_trans (Nat.pow_le_pow_left hb s) (Nat.le_trans (Nat.pow_le_pow_right (by decide) hs) (by decide))
theorem pw4 {b s : Nat} (hb : b ≤ 9) (hs : s ≤ 4) : b ^ s ≤ 6561 := Nat.le_trans (Nat.pow_le_pow_left hb s) (Nat.le_trans (Nat.pow_le_pow_right (by decide) hs) (by decide))
theorem searchI {σ : gS} {K : CS} {w : Nat → Nat} {q : Nat → QD} {n : Nat} (hK : okK K) (hn : n ≤ 4) (hS : SC 10 σ K) (hw : RW (σ.1 12) (kS K) w) (hq : RQ (σ.1 13) (kS K) q) : ∃ τ, F_X5_search_0 (nI n) σ = some τ ∧ JP K (mB K w q n) τ ∧ PF' σ τ := by
  have h8 : kS K ≤ 8 := hK.1
  have key : ∀ (m s f : Nat) (τ : gS), s + m = n → m < f → JP K (mB K w q s) τ → PF' σ τ → RQ (τ.1 68) (kS K) q → ∃ τ', F_X5_search_36 f (nI n) (nI (s + 1)) τ = some τ' ∧ JP K (mB K w q n) τ' ∧ PF' σ τ' := by
    intro m
    induction m with
    | zero =>
      intro s f τ hs hf hJ hF hq0
      obtain ⟨f, rfl⟩ : ∃ z, f = z + 1 := ⟨f - 1, by omega⟩
      have hsn : s = n := by omega
      subst hsn
      refine ⟨τ, ?_, hJ, hF⟩
      rw [F_X5_search_36, if_pos (nI_lt (by omega) (by omega))]
    | succ m ih =>
      intro s f τ hs hf hJ hF hq0
      obtain ⟨f, rfl⟩ : ∃ z, f = z + 1 := ⟨f - 1, by omega⟩
      have hle := mB_le (w := w) (q := q) hK s
      have hSτ := hF.sc hS
      rw [F_X5_search_36, if_neg (fun e => by rw [nI_ltI (by omega) (by omega)] at e; omega), hSτ.1, hJ.1, if_nI_le (by omega) (by omega)]
      by_cases ht : kS K ≤ (mB K w q s).1
      · rw [if_pos ht]
        have e : mB K w q n = mB K w q s := by rw [← hs]; exact mB_top hK ht (m + 1)
        refine ⟨τ, rfl, ?_, hF⟩
        rw [e]; exact hJ
      · rw [if_neg ht]
        obtain ⟨τ1, r1, l1, l2, l3, l4, l5, l6⟩ := extI (w := w) (q := q) (s := s + 1) hK (by omega) s 0 0 7 τ (mB K w q s) (by omega) (by omega) (by rw [Nat.pow_zero]; decide) hSτ (by rw [hF.1 12 (by decide)]; exact hw) hq0 hJ (by omega) (fun c hc => by rw [Nat.add_sub_cancel] at hc ⊢; exact mB_dom s c hc) (fun j hj => absurd hj (by omega))
        have r1' : F_X5_extend 7 0 (nI (s + 1)) τ = some τ1 := r1
        rw [r1', ob_s, bd_e, show nI (s + 1) + 1 = nI (s + 1 + 1) from nI_1 _]
        rw [Nat.zero_mul] at l4
        exact ih (s + 1) f τ1 (by omega) (by omega) l4 (hF.tr l1) (by
          have := l2 0 (Nat.le_refl _)
          rw [Nat.add_zero] at this
          rw [this]; exact hq0)
  unfold F_X5_search_0
  rw [ck_t (by decide), bd_e]
  let τ0 := cI σ 13 0 68 0 8
  have F0 : PF' σ τ0 := ⟨fun c hc => cI_ne (by omega), rfl⟩
  have h13 : RQ (τ0.1 13) (kS K) q := by rw [F0.1 13 (by decide)]; exact hq
  have h68 : RQ (τ0.1 68) (kS K) q := by
    intro i hi
    show (cI σ 13 0 68 0 8).1 68 i = _ ∧ _
    rw [cI_eq, show (0 : Int32).toNatClampNeg = 0 from rfl, show (8 : Int32).toNatClampNeg = 8 from rfl]
    have := cpy_in (f := σ.1 13) (g := σ.1 68) (i := 0) (j := 0) (n := 8) (k := i) (by omega)
    rw [Nat.zero_add] at this
    rw [this]; exact hq i hi
  have rc := rightCountI (c := 13) (F0.sc hS) hK (by rw [F0.1 12 (by decide)]; exact hw) h13
  have rc' : F_X2_rightCount_0 13 (cI σ 13 0 68 0 8) = some (nI (rgN K w q 0 0)) := rc
  rw [rc', ob_s, bd_e, bd_e]
  refine key n 0 fu (sI (sI τ0 64 0 (nI (rgN K w q 0 0))) 64 1 0) (by omega) (by unfold fu; omega) ⟨?_, sI_at _ _ _ _, fun j hj => absurd hj (by show ¬ j < 0; omega)⟩ (F0.tr ⟨fun c hc => by rw [sI_ne (by omega), sI_ne (by omega)], rfl⟩) ?_
  · rw [sI_o (by decide), sI_at]; rfl
  · rw [sI_ne (by decide), sI_ne (by decide)]; exact h68
/- the model -/
theorem pl194 {σ : gS} {K : CS} (hM : SM (σ.1 83) K) (hK : okK K) (o : Nat) : ∀ (t f z : Nat), t < f → o + t < 2 ^ 31 → z < 2 ^ 31 → F_X12_plan_194 f (nI o) (nI (nN K)) (nI z) (nI (o + t)) σ = some (nI (ndN K (z / nN K ^ t % nN K)), σ) := by
  obtain ⟨n2, n9⟩ := nN9 hK
  intro t
  induction t with
  | zero =>
    intro f z hf ho hz
    obtain ⟨f, rfl⟩ : ∃ z, f = z + 1 := ⟨f - 1, by omega⟩
    rw [F_X12_plan_194, if_pos (nI_le (by omega) (by omega)), ck_t (nI_ne0 (by omega) (by omega)), pk_rem hz (by omega) (by omega), dofM hM hK (Nat.mod_lt _ (by omega)), ob_s, Nat.pow_zero, Nat.div_one]
  | succ t ih =>
    intro f z hf ho hz
    obtain ⟨f, rfl⟩ : ∃ z, f = z + 1 := ⟨f - 1, by omega⟩
    have := Nat.div_le_self z (nN K)
    rw [F_X12_plan_194, if_neg (nI_ge (by omega) (by omega)), ck_t (nI_ne0 (by omega) (by omega)), pk_div hz (by omega) (by omega), bd_e, bd_e, nI_m1 (by omega), show o + (t + 1) - 1 = o + t by omega, ih f _ (by omega) (by omega) (by omega), Nat.div_div_eq_div_mul, ← Nat.pow_succ']
/-- a row judged -/
theorem pl78 {σ : gS} {K : CS} {w : Nat → Nat} {q : Nat → QD} {s c : Nat} (g52 : Int32 → Int32 → Int32 → Int32 → Int32 → Int32 → Int32 → Int32 → gS → Option (Int32 × gS)) (g61 : Int32 → Int32 → Int32 → Int32 → Int32 → Int32 → Int32 → Int32 → Int32 → gS → Option (Int32 × gS)) (x1 x2 x4 x5 x6 : Int32) (hK : okK K) (hs : s ≤ 4) (hc : c < nN K ^ s) (hM : SM (σ.1 83) K) : ∀ (j f : Nat) (g : Nat → Int32), j ≤ s → j < f → WM g (kS K) w → QM g (kS K) (fun i => rnQ K i (s - j) (c / nN K ^ j) (q i)) →
    ∃ g', F_X12_plan_78 g52 g61 f x1 x2 (nI (nN K)) x4 x5 x6 (nI (nN K ^ s)) (nI s) (nI c) (nI (nN K ^ j / nN K)) (s1 σ 87 g) = (if nI (rgN K w q s c) ≤ x4 then g61 x1 x2 (nI (nN K)) x4 x5 x6 (nI (nN K ^ s)) (nI s) (nI (c + 1)) (s1 σ 87 g') else g61 x1 x2 (nI (nN K)) (nI (rgN K w q s c)) (nI c) (nI s) (nI (nN K ^ s)) (nI s) (nI (c + 1)) (s1 σ 87 g')) := by
  obtain ⟨n2, n9⟩ := nN9 hK
  have h8 : kS K ≤ 8 := hK.1
  have hp := pw4 n9 hs
  intro j
  induction j with
  | zero =>
    intro f g hj hf hw hq
    obtain ⟨f, rfl⟩ : ∃ z, f = z + 1 := ⟨f - 1, by omega⟩
    have hM' : SM ((s1 σ 87 g).1 83) K := by rw [s1_ne (by decide)]; exact hM
    refine ⟨g, ?_⟩
    rw [Nat.pow_zero, Nat.div_eq_of_lt (show 1 < nN K by omega), F_X12_plan_78, if_pos (show nI 0 ≤ (0 : Int32) by decide)]
    rw [Nat.pow_zero, Nat.div_one, Nat.sub_zero] at hq
    rw [rightOnM (w := w) hM' hK (by rw [s1_eq]; exact hw) (by rw [s1_eq]; exact hq), ob_s, bitsM _ (rs_256 _ h8), ob_s]
    simp only [F_X12_plan_143, bd_e, show nI c + 1 = nI (c + 1) from nI_1 c]
    rfl
  | succ j ih =>
    intro f g hj hf hw hq
    obtain ⟨f, rfl⟩ : ∃ z, f = z + 1 := ⟨f - 1, by omega⟩
    have hM' : SM ((s1 σ 87 g).1 83) K := by rw [s1_ne (by decide)]; exact hM
    have hpj : 0 < nN K ^ j := Nat.pow_pos (by omega)
    have hpj4 : nN K ^ j ≤ 6561 := pw4 n9 (by omega)
    have hdl := Nat.div_le_self c (nN K ^ j)
    rw [Nat.pow_succ, Nat.mul_div_cancel _ (show 0 < nN K by omega), F_X12_plan_78, if_neg (show ¬ nI (nN K ^ j) ≤ (0 : Int32) from nI_ge (a := 0) hpj (by omega)), ck_t (nI_ne0 (by omega) (by omega)), ck_t (nI_ne0 (by omega) (by omega)), pk_div (by omega) hpj (by omega), pk_rem (by omega) (by omega) (by omega), dofM hM' hK (Nat.mod_lt _ (by omega)), ob_s, doesAllM (q := fun i => rnQ K i (s - (j + 1)) (c / nN K ^ (j + 1)) (q i)) hM' hK (by decide) (ndN_ok (Nat.mod_lt _ (by omega))) (by rw [s1_eq]; exact hq), ob_s, ck_t (nI_ne0 (by omega) (by omega)), pk_div (by omega) (by omega) (by omega), bd_e, s1_eq, s1_s1]
    refine ih f _ (by omega) (by omega) (fun i hi => by rw [mrR_hi (by omega)]; exact hw i hi) ?_
    have := mrR_QM (f := g) (q := fun k => afQ K k (ndN K (c / nN K ^ j % nN K)) (rnQ K k (s - (j + 1)) (c / nN K ^ (j + 1)) (q k))) h8 (fun i hi => afQ_ok (hq i hi).2.2.2.2)
    have e : ∀ k, afQ K k (ndN K (c / nN K ^ j % nN K)) (rnQ K k (s - (j + 1)) (c / nN K ^ (j + 1)) (q k)) = rnQ K k (s - j) (c / nN K ^ j) (q k) := by
      intro k
      rw [show s - j = (s - (j + 1)) + 1 by omega, rnQ, Nat.div_div_eq_div_mul, ← Nat.pow_succ]
    simp only [e] at this ⊢
    exact this
theorem pl61 {K : CS} {w : Nat → Nat} {q : Nat → QD} {s : Nat} (g52 : Int32 → Int32 → Int32 → Int32 → Int32 → Int32 → Int32 → Int32 → gS → Option (Int32 × gS)) (x1 x2 : Int32) (hK : okK K) (hs : s ≤ 4) : ∀ (m c f : Nat) (b : B3) (τ : gS), c + m = nN K ^ s → m < f → b.1 ≤ 8 → SM (τ.1 83) K → WM (τ.1 86) (kS K) w → QM (τ.1 86) (kS K) q →
    ∃ g, F_X12_plan_61 g52 f x1 x2 (nI (nN K)) (nI b.1) (nI b.2.1) (nI b.2.2) (nI (nN K ^ s)) (nI s) (nI c) τ = g52 x1 x2 (nI (nN K)) (nI (fB (rgN K w q s) s m c b).1) (nI (fB (rgN K w q s) s m c b).2.1) (nI (fB (rgN K w q s) s m c b).2.2) (nI (nN K ^ (s + 1))) (nI (s + 1)) (s1 τ 87 g) := by
  obtain ⟨n2, n9⟩ := nN9 hK
  have h8 : kS K ≤ 8 := hK.1
  have hp := pw4 n9 hs
  intro m
  induction m with
  | zero =>
    intro c f b τ hc hf hb hM hw hq
    obtain ⟨f, rfl⟩ : ∃ z, f = z + 1 := ⟨f - 1, by omega⟩
    refine ⟨τ.1 87, ?_⟩
    rw [F_X12_plan_61, if_pos (nI_le (by omega) (by omega)), bd_e, bd_e, pk_mul, ← Nat.pow_succ, show nI s + 1 = nI (s + 1) from nI_1 s, s1_id]
    rfl
  | succ m ih =>
    intro c f b τ hc hf hb hM hw hq
    obtain ⟨f, rfl⟩ : ∃ z, f = z + 1 := ⟨f - 1, by omega⟩
    rw [F_X12_plan_61, if_neg (nI_ge (by omega) (by omega)), asideM, ob_s, ck_t (nI_ne0 (by omega) (by omega)), pk_div (by omega) (by omega) (by omega), bd_e]
    have at87 : ∀ k, k < 40 → va_cpy (τ.1 86) (τ.1 87) 0 0 40 k = τ.1 86 k := fun k hk => aside_at τ hk
    have hq' : QM (va_cpy (τ.1 86) (τ.1 87) 0 0 40) (kS K) q := hq.congr h8 (fun k hk => at87 k (by omega))
    obtain ⟨g, r1⟩ := pl78 (σ := τ) (w := w) (q := q) (s := s) (c := c) g52 (F_X12_plan_61 g52 f) x1 x2 (nI b.1) (nI b.2.1) (nI b.2.2) hK hs (by omega) hM s fu (va_cpy (τ.1 86) (τ.1 87) 0 0 40) (Nat.le_refl _) (by unfold fu; omega) (fun i hi => by rw [at87 _ (by omega)]; exact hw i hi) (by
      rw [Nat.sub_self]; exact hq')
    rw [r1]
    have hrg := rgN_le (w := w) (q := q) hK s c
    have hM' : SM ((s1 τ 87 g).1 83) K := by rw [s1_ne (by decide)]; exact hM
    have hw' : WM ((s1 τ 87 g).1 86) (kS K) w := by rw [s1_ne (by decide)]; exact hw
    have hq2 : QM ((s1 τ 87 g).1 86) (kS K) q := by rw [s1_ne (by decide)]; exact hq
    rw [if_nI_le (by omega) (by omega)]
    show ∃ g_1, _ = g52 x1 x2 (nI (nN K)) (nI (fB (rgN K w q s) s m (c + 1) (upB (rgN K w q s c) s c b)).1) (nI (fB (rgN K w q s) s m (c + 1) (upB (rgN K w q s c) s c b)).2.1) (nI (fB (rgN K w q s) s m (c + 1) (upB (rgN K w q s c) s c b)).2.2) (nI (nN K ^ (s + 1))) (nI (s + 1)) (s1 τ 87 g_1)
    by_cases h : rgN K w q s c ≤ b.1
    · rw [if_pos h, show upB (rgN K w q s c) s c b = b from if_neg (by omega)]
      obtain ⟨g', z⟩ := ih (c + 1) f b (s1 τ 87 g) (by omega) (by omega) hb hM' hw' hq2
      exact ⟨g', by rw [z, s1_s1]⟩
    · rw [if_neg h, show upB (rgN K w q s c) s c b = (rgN K w q s c, c, s) from if_pos (by omega)]
      obtain ⟨g', z⟩ := ih (c + 1) f (rgN K w q s c, c, s) (s1 τ 87 g) (by omega) (by omega) (Nat.le_trans hrg h8) hM' hw' hq2
      exact ⟨g', by rw [s1_s1] at z; exact z⟩
