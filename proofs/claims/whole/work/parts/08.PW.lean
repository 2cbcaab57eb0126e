/-! PURE W: cloth: stencils, the whole reading -/
theorem or256 : ∀ m, m < 256 → ∀ v, v < 8 → m ||| 2 ^ v < 256 := fun m hm v hv => Nat.or_lt_two_pow (n := 8) hm (Nat.pow_lt_pow_right (by decide) hv)
theorem stL {σ σ' : gS} {N S T e d : Nat} {B : Nat → Nat} (hT : TP σ σ' N B) (hS1 : 1 ≤ S) (hS : S ≤ 8) (hT3 : T < 3) : ∀ (m c low s f g : Nat) (x1 : Int32) (τ υ : gS) (p : Nat), c + m = 8 → m < f → m < g → c ≤ low → low ≤ S → s < 256 → x1 + 1 = nI low → ST σ σ' N τ υ p → DT τ υ S e T d → τ.1 4 0 = nI S →
    ∃ s' τ' υ' p', s' < 256 ∧ ST σ σ' N τ' υ' p' ∧ DT τ' υ' S e T d ∧ (∀ k, τ'.1 4 k = τ.1 4 k) ∧ F_X6_readStencil_6 f (nI s) (nI low) (nI c) τ = some (nI s', τ') ∧ F_X12_readsStencil_4 g x1 (nI s) υ = some (if s' = 0 then 0 else 1, sI (sI υ' 84 (23 + T) (nI s')) 84 2 (nI (T + 1))) := by
  intro m
  -- the end: no figure more
  have fin : ∀ (low s g : Nat) (x1 : Int32) (τ υ : gS) (p : Nat), low ≤ S → s < 256 → x1 + 1 = nI low → DT τ υ S e T d → F_X12_figure_0 (nI low) (nI (S - 1)) υ = some (0, υ) → F_X12_readsStencil_4 (g + 1) x1 (nI s) υ = some (if s = 0 then 0 else 1, sI (sI υ 84 (23 + T) (nI s)) 84 2 (nI (T + 1))) := by
    intro low s g x1 τ υ p hl hs hx hD hf
    have e2 : (sI υ 84 (23 + T) (nI s)).1 84 2 = nI T := by rw [sI_o (by omega)]; exact hD.2.2.2.2.2
    rw [F_X12_readsStencil_4, hx, hD.2.2.2.1, L1, pk_sub hS1, hf, ob2_s, if_pos rfl, hD.2.2.2.2.2, L23, nI_add, ck_t (inR_t (by omega) (by decide)), TN_nI (by omega), bd_e, e2, ← L1, show nI T + 1 = nI (T + 1) from nI_1 T, bd_e, if_nI_z (by omega)]
    split <;> rfl
  induction m with
  | zero =>
    intro c low s f g x1 τ υ p hc hf hg hcl hlS hs hx h hD h4
    obtain ⟨f, rfl⟩ : ∃ z, f = z + 1 := ⟨f - 1, by omega⟩
    obtain ⟨g, rfl⟩ : ∃ z, g = z + 1 := ⟨g - 1, by omega⟩
    have hno : F_X12_figure_0 (nI low) (nI (S - 1)) υ = some (0, υ) := by
      rcases figL (a := low) (b := S - 1) hT h (by omega) (by omega) with ⟨-, f2⟩ | ⟨v, v1, v2, -⟩
      · exact f2
      · omega
    refine ⟨s, τ, υ, p, hs, h, hD, fun _ => rfl, ?_, fin low s g x1 τ υ p hlS hs hx hD hno⟩
    rw [F_X6_readStencil_6, if_pos (show (8 : Int32) ≤ nI c from nI_le (a := 8) (by omega) (by omega))]
  | succ m ih =>
    intro c low s f g x1 τ υ p hc hf hg hcl hlS hs hx h hD h4
    obtain ⟨f, rfl⟩ : ∃ z, f = z + 1 := ⟨f - 1, by omega⟩
    obtain ⟨g, rfl⟩ : ∃ z, g = z + 1 := ⟨g - 1, by omega⟩
    rcases figL (a := low) (b := S - 1) hT h (by omega) (by omega) with ⟨f1, f2⟩ | ⟨v, v1, v2, f1, f2, h2⟩
    · refine ⟨s, τ, υ, p, hs, h, hD, fun _ => rfl, ?_, fin low s g x1 τ υ p hlS hs hx hD f2⟩
      rw [F_X6_readStencil_6, if_neg (show ¬ (8 : Int32) ≤ nI c from nI_ge (b := 8) (by omega) (by omega)), h4, show nI S - 1 = nI (S - 1) from pk_sub hS1, f1, ob2_s, if_pos rfl]
    · have ca : F_X6_readStencil_6 (f + 1) (nI s) (nI low) (nI c) τ = F_X6_readStencil_6 f (nI (s ||| 2 ^ v)) (nI (v + 1)) (nI (c + 1)) (sI τ 3 1 (nI (p + 1))) := by
        rw [F_X6_readStencil_6, if_neg (show ¬ (8 : Int32) ≤ nI c from nI_ge (b := 8) (by omega) (by omega)), h4, show nI S - 1 = nI (S - 1) from pk_sub hS1, f1, ob2_s, if_neg (fun e => by have := congrArg Int32.toInt e; rw [nI_toInt (by omega), show (-1 : Int32).toInt = -1 from rfl] at this; omega), shl1 v (by omega), nI_or, bd_e, bd_e, bd_e, show nI v + 1 = nI (v + 1) from nI_1 v, show nI c + 1 = nI (c + 1) from nI_1 c]
      have e16 : (sI (sI υ 82 16 (nI v)) 82 15 (nI (p + 1))).1 82 16 = nI v := by rw [sI_o (by decide), sI_at]
      have ma : F_X12_readsStencil_4 (g + 1) x1 (nI s) υ = F_X12_readsStencil_4 g (nI v) (nI (s ||| 2 ^ v)) (sI (sI υ 82 16 (nI v)) 82 15 (nI (p + 1))) := by
        rw [F_X12_readsStencil_4, hx, hD.2.2.2.1, show nI S - 1 = nI (S - 1) from pk_sub hS1, f2, ob2_s, if_neg (by decide), e16, bd_e, shl1 v (by omega), nI_or, bd_e]
      obtain ⟨s', τ', υ', p', r1, r2, r3, r4, r5, r6⟩ := ih (c + 1) (v + 1) (s ||| 2 ^ v) f g (nI v) _ _ _ (by omega) (by omega) (by omega) (by omega) (by omega) (or256 s hs v (by omega)) (nI_1 v) h2 (hD.congr (sI_ne (by decide)) (sI_ne (by decide)) (sI_ne (by decide)) (sI_ne (by decide)) (by rw [sI_ne (by decide), sI_ne (by decide)]) (by rw [sI_ne (by decide), sI_ne (by decide)])) (by rw [sI_ne (by decide)]; exact h4)
      exact ⟨s', τ', υ', p', r1, r2, r3, fun k => by rw [r4 k, sI_ne (by decide)], ca.trans r5, ma.trans r6⟩
theorem stsL {σ σ' : gS} {N S d e : Nat} {B : Nat → Nat} (hT : TP σ σ' N B) (hS1 : 1 ≤ S) (hS : S ≤ 8) (he : e ≤ 12) : ∀ (m T f g : Nat) (τ υ : gS) (p : Nat), T + m = 3 → 0 < m → m < f → m < g → ST σ σ' N τ υ p → DT τ υ S e T d → τ.1 4 0 = nI S → τ.1 4 1 = nI d →
    ∃ (fl : Int32) (τ' υ' : gS) (p' T' : Nat), ST σ σ' N τ' υ' p' ∧ F_X6_readStencils_2 f (nI T) τ = some (fl, τ') ∧ ob2 (F_X12_readsStencil_0 υ) (fun r109 σ109 => if r109 = 0 then (some (0, σ109)) else (F_X12_reads_117 g σ109)) = some (fl, υ') ∧ (fl = 0 ∨ (fl = 1 ∧ 1 ≤ T' ∧ T' ≤ 3 ∧ DT τ' υ' S e T' d ∧ τ'.1 4 0 = nI S ∧ τ'.1 4 1 = nI d ∧ τ'.1 4 2 = nI T')) := by
  have fin : ∀ (τ υ : gS) (p T : Nat), ST σ σ' N τ υ p → 1 ≤ T → T ≤ 3 → DT τ υ S e T d → τ.1 4 0 = nI S → τ.1 4 1 = nI d → τ.1 4 2 = nI T →
      ∃ (fl : Int32) (τ' υ' : gS) (p' T' : Nat), ST σ σ' N τ' υ' p' ∧ F_X6_readStencils_63 τ = some (fl, τ') ∧ (if (υ.1 82 15) = (υ.1 82 11) then (some ((1 : Int32), υ)) else (some (0, υ))) = some (fl, υ') ∧ (fl = 0 ∨ (fl = 1 ∧ 1 ≤ T' ∧ T' ≤ 3 ∧ DT τ' υ' S e T' d ∧ τ'.1 4 0 = nI S ∧ τ'.1 4 1 = nI d ∧ τ'.1 4 2 = nI T')) := by
    intro τ υ p T h h1 h3 hD g0 g1 g2
    have hat := atI hT h
    obtain ⟨h80, -, -, a1, -, h256⟩ := hT
    have e11 : υ.1 82 11 = nI N := by rw [h.2.1.2.2 11 (by decide) (by decide)]; exact a1
    have hp := h.2.2.1
    rw [h.2.2.2.2, e11, if_nI_eq (by omega) (by omega)]
    unfold F_X6_readStencils_63
    rw [hat, ob_s]
    unfold hB
    by_cases hpn : p < N
    · have hb := h256 p hpn
      rw [if_pos hpn, if_neg (fun q => by have := congrArg Int32.toInt q; rw [nI_toInt (by omega), show (-1 : Int32).toInt = -1 from rfl] at this; omega), if_neg (by omega)]
      exact ⟨0, τ, υ, p, T, h, rfl, rfl, Or.inl rfl⟩
    · rw [if_neg hpn, if_pos rfl, if_pos (by omega)]
      exact ⟨1, τ, υ, p, T, h, rfl, rfl, Or.inr ⟨rfl, h1, h3, hD, g0, g1, g2⟩⟩
  intro m
  induction m with
  | zero => intro T f g τ υ p hT' h0; exact absurd h0 (by omega)
  | succ m ih =>
    intro T f g τ υ p hT3 h0 hf hg h hD g0 g1
    obtain ⟨f, rfl⟩ : ∃ z, f = z + 1 := ⟨f - 1, by omega⟩
    obtain ⟨g, rfl⟩ : ∃ z, g = z + 1 := ⟨g - 1, by omega⟩
    obtain ⟨s, τ1, υ1, p1, r1, r2, r3, r4, r5, r6⟩ := stL (T := T) (e := e) (d := d) hT hS1 hS (by omega) 8 0 0 0 fu fu (-1) τ υ p (by omega) (by unfold fu; omega) (by unfold fu; omega) (by omega) (by omega) (by omega) (by decide) h hD g0
    have a1 : F_X6_readStencil_0 τ = _ := r5
    have a2 : F_X12_readsStencil_0 υ = _ := r6
    have hSm : ST σ σ' N τ1 (sI (sI υ1 84 (23 + T) (nI s)) 84 2 (nI (T + 1))) p1 := (r2.m (Or.inl rfl)).m (Or.inl rfl)
    by_cases hs : s = 0
    · subst hs
      refine ⟨0, τ1, _, p1, T, hSm, ?_, ?_, Or.inl rfl⟩
      · rw [F_X6_readStencils_2, if_neg (show ¬ (3 : Int32) ≤ nI T from nI_ge (b := 3) (by omega) (by omega)), a1, ob2_s, if_pos (by decide)]
      · rw [a2, ob2_s, if_pos rfl, if_pos rfl]
    · have hc : F_X6_readStencils_2 (f + 1) (nI T) τ = if T + 1 = 3 then (F_X6_readStencils_63 (sI (sI τ1 9 T (nI s)) 4 2 (nI (T + 1)))) else (ob2 (F_X6_sign_0 44 (sI (sI τ1 9 T (nI s)) 4 2 (nI (T + 1)))) (fun r48 σ48 => if r48 = 0 then (F_X6_readStencils_63 σ48) else (F_X6_readStencils_2 f (nI (T + 1)) σ48))) := by
        rw [F_X6_readStencils_2, if_neg (show ¬ (3 : Int32) ≤ nI T from nI_ge (b := 3) (by omega) (by omega)), a1, ob2_s, if_neg (nI_ne0 (by omega) (by omega)), ck_t (inR_t (by omega) (by decide)), TN_nI (by omega), show nI T + 1 = nI (T + 1) from nI_1 T, bd_e, bd_e, L3, if_nI_eq (by omega) (by decide)]
        rfl
      have hm : ob2 (F_X12_readsStencil_0 υ) (fun r109 σ109 => if r109 = 0 then (some (0, σ109)) else (F_X12_reads_117 (g + 1) σ109)) = F_X12_reads_117 (g + 1) (sI (sI υ1 84 (23 + T) (nI s)) 84 2 (nI (T + 1))) := by rw [a2, ob2_s, if_neg hs, if_neg (by decide)]
      rw [hc, hm]
      have h2 : ST σ σ' N (sI (sI τ1 9 T (nI s)) 4 2 (nI (T + 1))) (sI (sI υ1 84 (23 + T) (nI s)) 84 2 (nI (T + 1))) p1 := (hSm.c (Or.inr (Or.inr (Or.inr (Or.inr rfl))))).c (Or.inl ⟨rfl, by decide⟩)
      obtain ⟨d1, d2, d3, d4, d5, d6⟩ := r3
      have hD2 : DT (sI (sI τ1 9 T (nI s)) 4 2 (nI (T + 1))) (sI (sI υ1 84 (23 + T) (nI s)) 84 2 (nI (T + 1))) S e (T + 1) d := by
        refine ⟨fun i hi => ?_, fun j hj => ?_, fun t ht => ?_, ?_, ?_, sI_at _ _ _ _⟩
        · obtain ⟨a, w, ha, hw, x1, x2, x3, x4⟩ := d1 i hi
          refine ⟨a, w, ha, hw, ?_, ?_, ?_, ?_⟩
          · rw [sI_ne (by decide), sI_ne (by decide)]; exact x1
          · rw [sI_o (by omega), sI_o (by omega)]; exact x2
          · rw [sI_ne (by decide), sI_ne (by decide)]; exact x3
          · rw [sI_ne (by decide), sI_ne (by decide)]; exact x4
        · obtain ⟨a, ha, x1, x2⟩ := d2 j hj
          refine ⟨a, ha, ?_, ?_⟩
          · rw [sI_ne (by decide), sI_ne (by decide)]; exact x1
          · rw [sI_o (by omega), sI_o (by omega)]; exact x2
        · by_cases htT : t = T
          · subst htT
            refine ⟨s, r1, ?_, ?_⟩
            · rw [sI_ne (by decide), sI_at]
            · rw [sI_o (by omega), sI_at]
          · obtain ⟨a, ha, x1, x2⟩ := d3 t (by omega)
            refine ⟨a, ha, ?_, ?_⟩
            · rw [sI_ne (by decide), sI_o htT]; exact x1
            · rw [sI_o (by omega), sI_o (by omega)]; exact x2
        · rw [sI_o (by decide), sI_o (by omega)]; exact d4
        · rw [sI_o (by decide), sI_o (by omega)]; exact d5
      have k0 : (sI (sI τ1 9 T (nI s)) 4 2 (nI (T + 1))).1 4 0 = nI S := by rw [sI_o (by decide), sI_ne (by decide), r4]; exact g0
      have k1 : (sI (sI τ1 9 T (nI s)) 4 2 (nI (T + 1))).1 4 1 = nI d := by rw [sI_o (by decide), sI_ne (by decide), r4]; exact g1
      have k2 : (sI (sI τ1 9 T (nI s)) 4 2 (nI (T + 1))).1 4 2 = nI (T + 1) := sI_at _ _ _ _
      have an := anoL (υ := sI (sI υ1 84 (23 + T) (nI s)) 84 2 (nI (T + 1))) (k := 2) (n := T + 1) (c := 3) (x := 2) (y := 3) rfl rfl (by decide) (by decide) (by omega) (sI_at _ _ _ _)
      rw [F_X12_reads_117, an]
      by_cases hT4 : T + 1 = 3
      · rw [if_pos hT4, if_pos (show 3 ≤ T + 1 by omega), ob2_s, if_pos rfl]
        exact fin _ _ _ _ h2 (by omega) (by omega) hD2 k0 k1 k2
      · rw [if_neg hT4, if_neg (show ¬ 3 ≤ T + 1 by omega)]
        rcases signL' (x := 44) (c := 44) rfl hT h2 (by decide) with ⟨s1, s2, s3⟩ | ⟨s1, s2, s3⟩
        · rw [s1, s2, ob2_s, ob2_s, if_pos rfl, if_pos rfl, ob2_s, if_pos rfl]
          exact fin _ _ _ _ s3 (by omega) (by omega) hD2.mm k0 k1 k2
        · rw [s1, s2, ob2_s, ob2_s, if_neg (by decide), if_neg (by decide), ob2_s, if_neg (by decide)]
          exact ih (T + 1) f g _ _ _ (by omega) (by omega) (by omega) (by omega) s3 hD2.mv (by rw [sI_ne (by decide)]; exact k0) (by rw [sI_ne (by decide)]; exact k1)
/-- the whole reading, both -/
theorem readL {σ σ' : gS} {N : Nat} {B : Nat → Nat} (hT : TP σ σ' N B) : ∃ (fl : Int32) (τ' υ' : gS) (p' S d T : Nat), ST σ σ' N τ' υ' p' ∧ F_X6_read_0 σ = some (fl, τ') ∧ F_X12_reads_0 σ' = some (fl, υ') ∧ (fl = 0 ∨ (fl = 1 ∧ (1 ≤ S ∧ S ≤ 8) ∧ (1 ≤ d ∧ d ≤ 4) ∧ (1 ≤ T ∧ T ≤ 3) ∧ DT τ' υ' S (3 * d) T d ∧ τ'.1 4 0 = nI S ∧ τ'.1 4 1 = nI d ∧ τ'.1 4 2 = nI T)) := by
  -- the model empties what it reads into
  have z26 : ∀ (m k f : Nat) (υ : gS), k + m = 26 → m < f → FRM σ' υ → (∀ j, j < k → υ.1 84 j = 0) → ∃ υ', FRM σ' υ' ∧ (∀ j, j < 26 → υ'.1 84 j = 0) ∧ F_X12_reads_2 f (nI k) υ = (bd (sI υ' 82 15 0) (fun σ23 => ob2 (F_X12_eats_0 119 σ23) (fun r29 σ29 => if r29 = 0 then (some (0, σ29)) else (ob2 (F_X12_readsSquare_0 σ29) (fun r36 σ36 => if r36 = 0 then (some (0, σ36)) else (F_X12_reads_44 fu σ36)))))) := by
    intro m
    induction m with
    | zero =>
      intro k f υ hk hf hF hz
      obtain ⟨f, rfl⟩ : ∃ z, f = z + 1 := ⟨f - 1, by omega⟩
      refine ⟨υ, hF, fun j hj => hz j (by omega), ?_⟩
      rw [F_X12_reads_2, if_pos (show (26 : Int32) ≤ nI k from nI_le (a := 26) (by omega) (by omega))]
    | succ m ih =>
      intro k f υ hk hf hF hz
      obtain ⟨f, rfl⟩ : ∃ z, f = z + 1 := ⟨f - 1, by omega⟩
      rw [F_X12_reads_2, if_neg (show ¬ (26 : Int32) ≤ nI k from nI_ge (b := 26) (by omega) (by omega)), ck_t (inR_t (by omega) (by decide)), TN_nI (by omega), bd_e, bd_e, show nI k + 1 = nI (k + 1) from nI_1 k]
      refine ih (k + 1) f _ (by omega) (by omega) (hF.w (by omega)) (fun j hj => ?_)
      by_cases e : j = k
      · rw [e, sI_at]
      · rw [sI_o e]; exact hz j (by omega)
  obtain ⟨υ0, u1, u2, u3⟩ := z26 26 0 fu σ' (by omega) (by unfold fu; omega) ⟨fun _ _ _ _ => rfl, rfl, fun _ _ _ => rfl⟩ (fun j hj => absurd hj (by omega))
  have u3' : F_X12_reads_0 σ' = _ := u3
  rw [bd_e] at u3'
  have h0 : ST σ σ' N (sI σ 3 1 0) (sI υ0 82 15 0) 0 := ⟨FRC.w (σ := σ) (τ := σ) ⟨fun _ _ _ _ _ _ _ => rfl, rfl, rfl⟩ (by decide), u1.w (by decide), Nat.zero_le _, sI_at _ _ _ _, sI_at _ _ _ _⟩
  have ca : F_X6_read_0 σ = (ob2 (F_X6_sign_0 119 (sI σ 3 1 0)) (fun r8 σ8 => if r8 = 0 then (some (0, σ8)) else (ob2 (F_X6_readSquares_0 σ8) (fun r15 σ15 => if r15 = 0 then (some (0, σ15)) else (ob2 (F_X6_readDyes_0 σ15) (fun r22 σ22 => if r22 = 0 then (some (0, σ22)) else (ob2 (F_X6_readStencils_0 σ22) (fun r29 σ29 => if r29 = 0 then (some (0, σ29)) else (some (1, σ29)))))))))) := rfl
  rcases signL' (x := 119) (c := 119) rfl hT h0 (by decide) with ⟨s1, s2, s3⟩ | ⟨s1, s2, s3⟩
  · rw [s1, ob2_s, if_pos rfl] at ca
    rw [s2, ob2_s, if_pos rfl] at u3'
    exact ⟨0, _, _, _, 0, 0, 0, s3, ca, u3', Or.inl rfl⟩
  · rw [s1, ob2_s, if_neg (by decide)] at ca
    rw [s2, ob2_s, if_neg (by decide)] at u3'
    have hD0 : DT (sI (sI σ 3 1 0) 3 1 (nI (0 + 1))) (sI (sI υ0 82 15 0) 82 15 (nI (0 + 1))) 0 0 0 0 := by
      refine ⟨fun i hi => absurd hi (by omega), fun i hi => absurd hi (by omega), fun i hi => absurd hi (by omega), ?_, ?_, ?_⟩
      · rw [sI_ne (by decide), sI_ne (by decide), u2 0 (by decide)]; rfl
      · rw [sI_ne (by decide), sI_ne (by decide), u2 1 (by decide)]; rfl
      · rw [sI_ne (by decide), sI_ne (by decide), u2 2 (by decide)]; rfl
    rcases sqsL hT 8 0 fu fu _ _ _ (by omega) (by omega) (by unfold fu; omega) (by unfold fu; omega) s3 hD0 with ⟨τ1, υ1, p1, t1, t2, t3⟩ | ⟨τ1, υ1, p1, S, t1, tS1, tS8, tD, t4, t2, t3⟩
    · have t2' : F_X6_readSquares_0 (sI (sI σ 3 1 0) 3 1 (nI (0 + 1))) = _ := t2
      rw [t2', ob2_s, if_pos rfl] at ca
      rw [t3] at u3'
      exact ⟨0, _, _, _, 0, 0, 0, t1, ca, u3', Or.inl rfl⟩
    · have t2' : F_X6_readSquares_0 (sI (sI σ 3 1 0) 3 1 (nI (0 + 1))) = _ := t2
      rw [t2', ob2_s, if_neg (by decide)] at ca
      rw [t3] at u3'
      rcases dysL hT tS8 4 0 fu fu τ1 υ1 p1 (by omega) (by omega) (by unfold fu; omega) (by unfold fu; omega) t1 tD t4 with ⟨τ2, υ2, p2, v1, v2, v3⟩ | ⟨τ2, υ2, p2, d, v1, vd1, vd4, vD, v40, v41, v2, v3⟩
      · have v2' : F_X6_readDyes_0 τ1 = _ := v2
        rw [v2', ob2_s, if_pos rfl] at ca
        rw [v3] at u3'
        exact ⟨0, _, _, _, 0, 0, 0, v1, ca, u3', Or.inl rfl⟩
      · have v2' : F_X6_readDyes_0 τ1 = _ := v2
        rw [v2', ob2_s, if_neg (by decide)] at ca
        rw [v3] at u3'
        obtain ⟨fl, τ3, υ3, p3, T, w1, w2, w3, w4⟩ := stsL (d := d) (e := 3 * d) hT tS1 tS8 (by omega) 3 0 fu fu τ2 υ2 p2 (by omega) (by omega) (by unfold fu; omega) (by unfold fu; omega) v1 vD v40 v41
        have w2' : F_X6_readStencils_0 τ2 = _ := w2
        rw [w2', ob2_s] at ca
        rw [w3] at u3'
        rcases w4 with rfl | ⟨rfl, b1, b2, b3, b4, b5, b6⟩
        · rw [if_pos rfl] at ca
          exact ⟨0, _, _, _, 0, 0, 0, w1, ca, u3', Or.inl rfl⟩
        · rw [if_neg (by decide)] at ca
          exact ⟨1, _, _, _, S, d, T, w1, ca, u3', Or.inr ⟨rfl, ⟨tS1, tS8⟩, ⟨vd1, vd4⟩, ⟨b1, b2⟩, b3, b4, b5, b6⟩⟩
