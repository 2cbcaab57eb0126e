/-! PURE V: cloth: squares, dyes, stencils -/
theorem DT.mv {τ υ : gS} {S e T d : Nat} {x y : Int32} (h : DT τ υ S e T d) : DT (sI τ 3 1 x) (sI υ 82 15 y) S e T d := h.congr (sI_ne (by decide)) (sI_ne (by decide)) (sI_ne (by decide)) (sI_ne (by decide)) (sI_ne (by decide)) (sI_ne (by decide))
theorem DT.mm {τ υ : gS} {S e T d : Nat} {y : Int32} {k : Nat} (h : DT τ υ S e T d) : DT τ (sI υ 82 k y) S e T d := h.congr rfl rfl rfl rfl (sI_ne (by decide)) (sI_ne (by decide))
theorem DT.c4 {τ υ : gS} {S e T d k : Nat} {x : Int32} (h : DT τ υ S e T d) : DT (sI τ 4 k x) υ S e T d := h.congr (sI_ne (by decide)) (sI_ne (by decide)) (sI_ne (by decide)) (sI_ne (by decide)) rfl rfl
theorem signL' {σ σ' τ υ : gS} {N p c : Nat} {x : Int32} {B : Nat → Nat} (hx : x = nI c) (hT : TP σ σ' N B) (h : ST σ σ' N τ υ p) (hc : c < 256) :
    (F_X6_sign_0 x τ = some (0, τ) ∧ F_X12_eats_0 x υ = some (0, sI υ 82 15 (nI p)) ∧ ST σ σ' N τ (sI υ 82 15 (nI p)) p) ∨ (F_X6_sign_0 x τ = some (1, sI τ 3 1 (nI (p + 1))) ∧ F_X12_eats_0 x υ = some (1, sI υ 82 15 (nI (p + 1))) ∧ ST σ σ' N (sI τ 3 1 (nI (p + 1))) (sI υ 82 15 (nI (p + 1))) (p + 1)) := by
  subst hx; exact signL hT h hc
/-- another one, or not -/
theorem anoL {υ : gS} {k n c : Nat} {x y : Int32} (hx : x = nI k) (hy : y = nI c) (hk : k < 26) (hc : c < 256) (hn : n < 256) (h : υ.1 84 k = nI n) : F_X12_another_0 x y υ = if c ≤ n then some (0, υ) else (ob2 (F_X12_eats_0 44 υ) (fun r13 σ13 => if r13 = 0 then (some (0, σ13)) else (some (1, σ13)))) := by
  subst hx hy
  unfold F_X12_another_0
  have hr : inR (nI k) 26 := inR_t hk (by decide)
  have tk : (nI k).toNatClampNeg = k := TN_nI (by omega)
  rw [ck_t hr]
  simp only [tk, h]
  rw [if_nI_le (by omega) (by omega)]
/-- squares -/
theorem sqsL {σ σ' : gS} {N : Nat} {B : Nat → Nat} (hT : TP σ σ' N B) : ∀ (m S f g : Nat) (τ υ : gS) (p : Nat), S + m = 8 → 0 < m → m < f → m < g → ST σ σ' N τ υ p → DT τ υ S 0 0 0 →
    (∃ τ' υ' p', ST σ σ' N τ' υ' p' ∧ F_X6_readSquares_2 f (nI S) τ = some (0, τ') ∧ ob2 (F_X12_readsSquare_0 υ) (fun r36 σ36 => if r36 = 0 then (some (0, σ36)) else (F_X12_reads_44 g σ36)) = some (0, υ')) ∨
    (∃ τ' υ' p' S', ST σ σ' N τ' υ' p' ∧ 1 ≤ S' ∧ S' ≤ 8 ∧ DT τ' υ' S' 0 0 0 ∧ τ'.1 4 0 = nI S' ∧ F_X6_readSquares_2 f (nI S) τ = some (1, τ') ∧ ob2 (F_X12_readsSquare_0 υ) (fun r36 σ36 => if r36 = 0 then (some (0, σ36)) else (F_X12_reads_44 g σ36)) = ob2 (F_X12_readsDye_0 υ') (fun r73 σ73 => if r73 = 0 then (some (0, σ73)) else (F_X12_reads_81 fu σ73))) := by
  -- the sign behind
  have fin : ∀ (τ υ : gS) (p S : Nat), ST σ σ' N τ υ p → 1 ≤ S → S ≤ 8 → DT τ υ S 0 0 0 → τ.1 4 0 = nI S →
      (∃ τ' υ' p', ST σ σ' N τ' υ' p' ∧ F_X6_readSquares_54 τ = some (0, τ') ∧ (ob2 (F_X12_eats_0 59 υ) (fun r66 σ66 => if r66 = 0 then (some (0, σ66)) else (ob2 (F_X12_readsDye_0 σ66) (fun r73 σ73 => if r73 = 0 then (some (0, σ73)) else (F_X12_reads_81 fu σ73))))) = some (0, υ')) ∨
      (∃ τ' υ' p' S', ST σ σ' N τ' υ' p' ∧ 1 ≤ S' ∧ S' ≤ 8 ∧ DT τ' υ' S' 0 0 0 ∧ τ'.1 4 0 = nI S' ∧ F_X6_readSquares_54 τ = some (1, τ') ∧ (ob2 (F_X12_eats_0 59 υ) (fun r66 σ66 => if r66 = 0 then (some (0, σ66)) else (ob2 (F_X12_readsDye_0 σ66) (fun r73 σ73 => if r73 = 0 then (some (0, σ73)) else (F_X12_reads_81 fu σ73))))) = ob2 (F_X12_readsDye_0 υ') (fun r73 σ73 => if r73 = 0 then (some (0, σ73)) else (F_X12_reads_81 fu σ73))) := by
    intro τ υ p S h h1 h8 hD h4
    rcases signL' (x := 59) (c := 59) rfl hT h (by decide) with ⟨s1, s2, s3⟩ | ⟨s1, s2, s3⟩
    · left
      refine ⟨_, _, _, s3, ?_, ?_⟩
      · unfold F_X6_readSquares_54; rw [s1, ob2_s, ck_t (by decide)]
      · rw [s2, ob2_s, if_pos rfl]
    · right
      refine ⟨_, _, _, S, s3, h1, h8, hD.mv, by rw [sI_ne (by decide)]; exact h4, ?_, ?_⟩
      · unfold F_X6_readSquares_54; rw [s1, ob2_s, ck_t (by decide)]
      · rw [s2, ob2_s, if_neg (by decide)]
  intro m
  induction m with
  | zero => intro S f g τ υ p hS h0; exact absurd h0 (by omega)
  | succ m ih =>
    intro S f g τ υ p hS h0 hf hg h hD
    obtain ⟨f, rfl⟩ : ∃ z, f = z + 1 := ⟨f - 1, by omega⟩
    obtain ⟨g, rfl⟩ : ∃ z, g = z + 1 := ⟨g - 1, by omega⟩
    obtain ⟨τ1, υ1, p1, h1, hsq⟩ := sqL hT h hD (by omega)
    rcases hsq with ⟨a1, a2⟩ | ⟨a1, a2, hD1⟩
    · left
      refine ⟨τ1, υ1, p1, h1, ?_, ?_⟩
      · rw [F_X6_readSquares_2, if_neg (show ¬ (8 : Int32) ≤ nI S from nI_ge (b := 8) (by omega) (by omega)), a1, ob2_s, if_pos rfl]
      · rw [a2, ob2_s, if_pos rfl]
    · have hc : F_X6_readSquares_2 (f + 1) (nI S) τ = if S + 1 = 8 then (F_X6_readSquares_54 (sI τ1 4 0 (nI (S + 1)))) else (ob2 (F_X6_sign_0 44 (sI τ1 4 0 (nI (S + 1)))) (fun r39 σ39 => if r39 = 0 then (F_X6_readSquares_54 σ39) else (F_X6_readSquares_2 f (nI (S + 1)) σ39))) := by
        rw [F_X6_readSquares_2, if_neg (show ¬ (8 : Int32) ≤ nI S from nI_ge (b := 8) (by omega) (by omega)), a1, ob2_s, if_neg (by decide), show nI S + 1 = nI (S + 1) from nI_1 S, bd_e, L8, if_nI_eq (by omega) (by decide)]
        rfl
      have hm : ob2 (F_X12_readsSquare_0 υ) (fun r36 σ36 => if r36 = 0 then (some (0, σ36)) else (F_X12_reads_44 (g + 1) σ36)) = F_X12_reads_44 (g + 1) υ1 := by rw [a2, ob2_s, if_neg (by decide)]
      rw [hc, hm]
      have h2 : ST σ σ' N (sI τ1 4 0 (nI (S + 1))) υ1 p1 := h1.c (Or.inl ⟨rfl, by decide⟩)
      have hD2 : DT (sI τ1 4 0 (nI (S + 1))) υ1 (S + 1) 0 0 0 := hD1.c4
      have h40 : (sI τ1 4 0 (nI (S + 1))).1 4 0 = nI (S + 1) := sI_at _ _ _ _
      have an := anoL (υ := υ1) (k := 0) (n := S + 1) (c := 8) (x := 0) (y := 8) rfl rfl (by decide) (by decide) (by omega) hD1.2.2.2.1
      rw [F_X12_reads_44, an]
      by_cases hS8 : S + 1 = 8
      · rw [if_pos hS8, if_pos (show 8 ≤ S + 1 by omega), ob2_s, if_pos rfl]
        exact fin _ _ _ _ h2 (by omega) (by omega) hD2 h40
      · rw [if_neg hS8, if_neg (show ¬ 8 ≤ S + 1 by omega)]
        rcases signL' (x := 44) (c := 44) rfl hT h2 (by decide) with ⟨s1, s2, s3⟩ | ⟨s1, s2, s3⟩
        · rw [s1, s2, ob2_s, ob2_s, if_pos rfl, if_pos rfl, ob2_s, if_pos rfl]
          exact fin _ _ _ _ s3 (by omega) (by omega) hD2.mm h40
        · rw [s1, s2, ob2_s, ob2_s, if_neg (by decide), if_neg (by decide), ob2_s, if_neg (by decide)]
          exact ih (S + 1) f g _ _ _ (by omega) (by omega) (by omega) (by omega) s3 hD2.mv
/-- a dye -/
theorem dyL {σ σ' : gS} {N S d : Nat} {B : Nat → Nat} (hT : TP σ σ' N B) (hd : d < 4) (hS : S ≤ 8) : ∀ (m x f g : Nat) (τ υ : gS) (p : Nat), x + m = 3 → m < f → m < g → ST σ σ' N τ υ p → DT τ υ S (3 * d + x) 0 d → τ.1 4 0 = nI S →
    ∃ τ' υ' p', ST σ σ' N τ' υ' p' ∧ ((F_X6_readDye_2 f (nI d) (nI x) τ = some (0, τ') ∧ F_X12_readsDye_2 g (nI x) υ = some (0, υ')) ∨ (F_X6_readDye_2 f (nI d) (nI x) τ = some (1, τ') ∧ F_X12_readsDye_2 g (nI x) υ = some (1, υ') ∧ DT τ' υ' S (3 * (d + 1)) 0 (d + 1) ∧ τ'.1 4 0 = nI S)) := by
  intro m
  induction m with
  | zero =>
    intro x f g τ υ p hx hf hg h hD h4
    obtain ⟨f, rfl⟩ : ∃ z, f = z + 1 := ⟨f - 1, by omega⟩
    obtain ⟨g, rfl⟩ : ∃ z, g = z + 1 := ⟨g - 1, by omega⟩
    obtain ⟨d1, d2, d3, d4, d5, d6⟩ := hD
    refine ⟨τ, sI υ 84 1 (nI (d + 1)), p, h.m (Or.inl rfl), Or.inr ⟨?_, ?_, ⟨fun i hi => ?_, fun j hj => ?_, fun t ht => absurd ht (by omega), ?_, sI_at _ _ _ _, ?_⟩, h4⟩⟩
    · rw [F_X6_readDye_2, if_pos (show (3 : Int32) ≤ nI x from nI_le (a := 3) (by omega) (by omega))]
    · rw [F_X12_readsDye_2, if_pos (show (3 : Int32) ≤ nI x from nI_le (a := 3) (by omega) (by omega)), d5, bd_e, show nI d + 1 = nI (d + 1) from nI_1 d]
    · rw [sI_o (by omega), sI_ne (by decide)]; exact d1 i hi
    · rw [sI_o (by omega)]; exact d2 j (by omega)
    · rw [sI_o (by decide)]; exact d4
    · rw [sI_o (by decide)]; exact d6
  | succ m ih =>
    intro x f g τ υ p hx hf hg h hD h4
    obtain ⟨f, rfl⟩ : ∃ z, f = z + 1 := ⟨f - 1, by omega⟩
    obtain ⟨g, rfl⟩ : ∃ z, g = z + 1 := ⟨g - 1, by omega⟩
    rcases figL (a := 0) (b := 3) hT h (by decide) (by decide) with ⟨f1, f2⟩ | ⟨v, -, v3, f1, f2, h2⟩
    · have f1' : F_X6_figure_0 0 3 τ = _ := f1
      have f2' : F_X12_figure_0 0 3 υ = _ := f2
      refine ⟨τ, υ, p, h, Or.inl ⟨?_, ?_⟩⟩
      · rw [F_X6_readDye_2, if_neg (show ¬ (3 : Int32) ≤ nI x from nI_ge (b := 3) (by omega) (by omega)), f1', ob2_s, if_pos rfl]
      · rw [F_X12_readsDye_2, if_neg (show ¬ (3 : Int32) ≤ nI x from nI_ge (b := 3) (by omega) (by omega)), f2', ob2_s, if_pos rfl]
    · have f1' : F_X6_figure_0 0 3 τ = _ := f1
      have f2' : F_X12_figure_0 0 3 υ = _ := f2
      have ca : F_X6_readDye_2 (f + 1) (nI d) (nI x) τ = F_X6_readDye_2 f (nI d) (nI (x + 1)) (sI (sI τ 3 1 (nI (p + 1))) 8 (3 * d + x) (nI v)) := by
        rw [F_X6_readDye_2, if_neg (show ¬ (3 : Int32) ≤ nI x from nI_ge (b := 3) (by omega) (by omega)), f1', ob2_s, if_neg (fun e => by have := congrArg Int32.toInt e; rw [nI_toInt (by omega), show (-1 : Int32).toInt = -1 from rfl] at this; omega), L3, pk_mul, nI_add, Nat.mul_comm d 3, ck_t (inR_t (by omega) (by decide)), TN_nI (by omega), bd_e, bd_e, show nI x + 1 = nI (x + 1) from nI_1 x]
      have e1 : (sI (sI υ 82 16 (nI v)) 82 15 (nI (p + 1))).1 84 1 = nI d := by rw [sI_ne (by decide), sI_ne (by decide)]; exact hD.2.2.2.2.1
      have e16 : (sI (sI υ 82 16 (nI v)) 82 15 (nI (p + 1))).1 82 16 = nI v := by rw [sI_o (by decide), sI_at]
      have ma : F_X12_readsDye_2 (g + 1) (nI x) υ = F_X12_readsDye_2 g (nI (x + 1)) (sI (sI (sI υ 82 16 (nI v)) 82 15 (nI (p + 1))) 84 (11 + (3 * d + x)) (nI v)) := by
        rw [F_X12_readsDye_2, if_neg (show ¬ (3 : Int32) ≤ nI x from nI_ge (b := 3) (by omega) (by omega)), f2', ob2_s, if_neg (by decide), e1, e16, L3, pk_mul, L11, nI_add, nI_add, ck_t (inR_t (by omega) (by decide)), TN_nI (by omega), bd_e, bd_e, show nI x + 1 = nI (x + 1) from nI_1 x, Nat.add_assoc]
      rw [ca, ma]
      obtain ⟨d1, d2, d3, d4, d5, d6⟩ := hD
      refine ih (x + 1) f g _ _ _ (by omega) (by omega) (by omega) ((h2.c (Or.inr (Or.inr (Or.inr (Or.inl rfl))))).m (Or.inl rfl)) ⟨fun i hi => ?_, fun j hj => ?_, fun t ht => absurd ht (by omega), ?_, ?_, ?_⟩ ?_
      · obtain ⟨a, w, ha, hw, x1, x2, x3, x4⟩ := d1 i hi
        refine ⟨a, w, ha, hw, ?_, ?_, ?_, ?_⟩
        · rw [sI_ne (by decide), sI_ne (by decide)]; exact x1
        · rw [sI_o (by omega), sI_ne (by decide), sI_ne (by decide)]; exact x2
        · rw [sI_ne (by decide), sI_ne (by decide)]; exact x3
        · rw [sI_ne (by decide), sI_ne (by decide), sI_ne (by decide)]; exact x4
      · by_cases hjx : j = 3 * d + x
        · subst hjx
          exact ⟨v, v3, sI_at _ _ _ _, sI_at _ _ _ _⟩
        · obtain ⟨a, ha, x1, x2⟩ := d2 j (by omega)
          refine ⟨a, ha, ?_, ?_⟩
          · rw [sI_o hjx, sI_ne (by decide)]; exact x1
          · rw [sI_o (by omega), sI_ne (by decide), sI_ne (by decide)]; exact x2
      · rw [sI_o (by omega), sI_ne (by decide), sI_ne (by decide)]; exact d4
      · rw [sI_o (by omega), sI_ne (by decide), sI_ne (by decide)]; exact d5
      · rw [sI_o (by omega), sI_ne (by decide), sI_ne (by decide)]; exact d6
      · rw [sI_ne (by decide), sI_ne (by decide)]; exact h4
theorem dysL {σ σ' : gS} {N S : Nat} {B : Nat → Nat} (hT : TP σ σ' N B) (hS : S ≤ 8) : ∀ (m d f g : Nat) (τ υ : gS) (p : Nat), d + m = 4 → 0 < m → m < f → m < g → ST σ σ' N τ υ p → DT τ υ S (3 * d) 0 d → τ.1 4 0 = nI S →
    (∃ τ' υ' p', ST σ σ' N τ' υ' p' ∧ F_X6_readDyes_2 f (nI d) τ = some (0, τ') ∧ ob2 (F_X12_readsDye_0 υ) (fun r73 σ73 => if r73 = 0 then (some (0, σ73)) else (F_X12_reads_81 g σ73)) = some (0, υ')) ∨
    (∃ τ' υ' p' d', ST σ σ' N τ' υ' p' ∧ 1 ≤ d' ∧ d' ≤ 4 ∧ DT τ' υ' S (3 * d') 0 d' ∧ τ'.1 4 0 = nI S ∧ τ'.1 4 1 = nI d' ∧ F_X6_readDyes_2 f (nI d) τ = some (1, τ') ∧ ob2 (F_X12_readsDye_0 υ) (fun r73 σ73 => if r73 = 0 then (some (0, σ73)) else (F_X12_reads_81 g σ73)) = ob2 (F_X12_readsStencil_0 υ') (fun r109 σ109 => if r109 = 0 then (some (0, σ109)) else (F_X12_reads_117 fu σ109))) := by
  have fin : ∀ (τ υ : gS) (p d : Nat), ST σ σ' N τ υ p → 1 ≤ d → d ≤ 4 → DT τ υ S (3 * d) 0 d → τ.1 4 0 = nI S → τ.1 4 1 = nI d →
      (∃ τ' υ' p', ST σ σ' N τ' υ' p' ∧ F_X6_readDyes_52 τ = some (0, τ') ∧ (ob2 (F_X12_eats_0 59 υ) (fun r102 σ102 => if r102 = 0 then (some (0, σ102)) else (ob2 (F_X12_readsStencil_0 σ102) (fun r109 σ109 => if r109 = 0 then (some (0, σ109)) else (F_X12_reads_117 fu σ109))))) = some (0, υ')) ∨
      (∃ τ' υ' p' d', ST σ σ' N τ' υ' p' ∧ 1 ≤ d' ∧ d' ≤ 4 ∧ DT τ' υ' S (3 * d') 0 d' ∧ τ'.1 4 0 = nI S ∧ τ'.1 4 1 = nI d' ∧ F_X6_readDyes_52 τ = some (1, τ') ∧ (ob2 (F_X12_eats_0 59 υ) (fun r102 σ102 => if r102 = 0 then (some (0, σ102)) else (ob2 (F_X12_readsStencil_0 σ102) (fun r109 σ109 => if r109 = 0 then (some (0, σ109)) else (F_X12_reads_117 fu σ109))))) = ob2 (F_X12_readsStencil_0 υ') (fun r109 σ109 => if r109 = 0 then (some (0, σ109)) else (F_X12_reads_117 fu σ109))) := by
    intro τ υ p d h h1 h8 hD h4 h41
    rcases signL' (x := 59) (c := 59) rfl hT h (by decide) with ⟨s1, s2, s3⟩ | ⟨s1, s2, s3⟩
    · left
      refine ⟨_, _, _, s3, ?_, ?_⟩
      · unfold F_X6_readDyes_52; rw [s1, ob2_s, ck_t (by decide)]
      · rw [s2, ob2_s, if_pos rfl]
    · right
      refine ⟨_, _, _, d, s3, h1, h8, hD.mv, by rw [sI_ne (by decide)]; exact h4, by rw [sI_ne (by decide)]; exact h41, ?_, ?_⟩
      · unfold F_X6_readDyes_52; rw [s1, ob2_s, ck_t (by decide)]
      · rw [s2, ob2_s, if_neg (by decide)]
  intro m
  induction m with
  | zero => intro d f g τ υ p hd h0; exact absurd h0 (by omega)
  | succ m ih =>
    intro d f g τ υ p hd h0 hf hg h hD h4
    obtain ⟨f, rfl⟩ : ∃ z, f = z + 1 := ⟨f - 1, by omega⟩
    obtain ⟨g, rfl⟩ : ∃ z, g = z + 1 := ⟨g - 1, by omega⟩
    obtain ⟨τ1, υ1, p1, h1, hdy⟩ := dyL hT (show d < 4 by omega) hS 3 0 fu fu τ υ p (by omega) (by unfold fu; omega) (by unfold fu; omega) h hD h4
    rcases hdy with ⟨a1, a2⟩ | ⟨a1, a2, hD1, h41⟩
    · have a1' : F_X6_readDye_0 (nI d) τ = _ := a1
      have a2' : F_X12_readsDye_0 υ = _ := a2
      left
      refine ⟨τ1, υ1, p1, h1, ?_, ?_⟩
      · rw [F_X6_readDyes_2, if_neg (show ¬ (4 : Int32) ≤ nI d from nI_ge (b := 4) (by omega) (by omega)), a1', ob2_s, if_pos rfl]
      · rw [a2', ob2_s, if_pos rfl]
    · have a1' : F_X6_readDye_0 (nI d) τ = _ := a1
      have a2' : F_X12_readsDye_0 υ = _ := a2
      have hc : F_X6_readDyes_2 (f + 1) (nI d) τ = if d + 1 = 4 then (F_X6_readDyes_52 (sI τ1 4 1 (nI (d + 1)))) else (ob2 (F_X6_sign_0 44 (sI τ1 4 1 (nI (d + 1)))) (fun r37 σ37 => if r37 = 0 then (F_X6_readDyes_52 σ37) else (F_X6_readDyes_2 f (nI (d + 1)) σ37))) := by
        rw [F_X6_readDyes_2, if_neg (show ¬ (4 : Int32) ≤ nI d from nI_ge (b := 4) (by omega) (by omega)), a1', ob2_s, if_neg (by decide), show nI d + 1 = nI (d + 1) from nI_1 d, bd_e, L4, if_nI_eq (by omega) (by decide)]
        rfl
      have hm : ob2 (F_X12_readsDye_0 υ) (fun r73 σ73 => if r73 = 0 then (some (0, σ73)) else (F_X12_reads_81 (g + 1) σ73)) = F_X12_reads_81 (g + 1) υ1 := by rw [a2', ob2_s, if_neg (by decide)]
      rw [hc, hm]
      have h2 : ST σ σ' N (sI τ1 4 1 (nI (d + 1))) υ1 p1 := h1.c (Or.inl ⟨rfl, by decide⟩)
      have hD2 : DT (sI τ1 4 1 (nI (d + 1))) υ1 S (3 * (d + 1)) 0 (d + 1) := hD1.c4
      have g0 : (sI τ1 4 1 (nI (d + 1))).1 4 0 = nI S := by rw [sI_o (by decide)]; exact h41
      have g1 : (sI τ1 4 1 (nI (d + 1))).1 4 1 = nI (d + 1) := sI_at _ _ _ _
      have an := anoL (υ := υ1) (k := 1) (n := d + 1) (c := 4) (x := 1) (y := 4) rfl rfl (by decide) (by decide) (by omega) hD1.2.2.2.2.1
      rw [F_X12_reads_81, an]
      by_cases hd4 : d + 1 = 4
      · rw [if_pos hd4, if_pos (show 4 ≤ d + 1 by omega), ob2_s, if_pos rfl]
        exact fin _ _ _ _ h2 (by omega) (by omega) hD2 g0 g1
      · rw [if_neg hd4, if_neg (show ¬ 4 ≤ d + 1 by omega)]
        rcases signL' (x := 44) (c := 44) rfl hT h2 (by decide) with ⟨s1, s2, s3⟩ | ⟨s1, s2, s3⟩
        · rw [s1, s2, ob2_s, ob2_s, if_pos rfl, if_pos rfl, ob2_s, if_pos rfl]
          exact fin _ _ _ _ s3 (by omega) (by omega) hD2.mm g0 g1
        · rw [s1, s2, ob2_s, ob2_s, if_neg (by decide), if_neg (by decide), ob2_s, if_neg (by decide)]
          exact ih (d + 1) f g _ _ _ (by omega) (by omega) (by omega) (by omega) s3 hD2.mv (by rw [sI_ne (by decide)]; exact g0)
