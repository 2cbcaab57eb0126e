/-! PURE J: shades -/
theorem htB_iff {K : CS} {i n x y z : Nat} : ∀ c, htB K i n c x y z = true ↔ ∃ k, k < c ∧ shQ K i n k = (x, y, z, 0)
  | 0 => ⟨fun h => (by cases h), fun ⟨k, hk, _⟩ => absurd hk (by omega)⟩
  | c + 1 => by
    unfold htB
    rw [Bool.or_eq_true, htB_iff c, decide_eq_true_iff]
    constructor
    · rintro (⟨k, h1, h2⟩ | h)
      · exact ⟨k, by omega, h2⟩
      · exact ⟨c, by omega, h⟩
    · rintro ⟨k, h1, h2⟩
      by_cases q : k = c
      · right; rw [← q]; exact h2
      · left; exact ⟨k, by omega, h2⟩
/-- shades met among the codes from c on, t of them -/
def gtB (K : CS) (i n : Nat) : Nat → Nat → Nat → Nat → Nat → Bool
  | 0, _, _, _, _ => false
  | t + 1, c, x, y, z => gtB K i n t (c + 1) x y z || decide (shQ K i n c = (x, y, z, 0))
theorem gtB_iff {K : CS} {i n x y z : Nat} : ∀ t c, gtB K i n t c x y z = true ↔ ∃ k, c ≤ k ∧ k < c + t ∧ shQ K i n k = (x, y, z, 0)
  | 0, c => ⟨fun h => (by cases h), fun ⟨k, h1, h2, _⟩ => absurd h1 (by omega)⟩
  | t + 1, c => by
    unfold gtB
    rw [Bool.or_eq_true, gtB_iff t (c + 1), decide_eq_true_iff]
    constructor
    · rintro (⟨k, h1, h2, h3⟩ | h)
      · exact ⟨k, by omega, by omega, h3⟩
      · exact ⟨c, by omega, by omega, h⟩
    · rintro ⟨k, h1, h2, h3⟩
      by_cases q : k = c
      · right; rw [← q]; exact h3
      · left; exact ⟨k, by omega, by omega, h3⟩
theorem gtB_htB {K : CS} {i n : Nat} (T : Nat) : gtB K i n T 0 = htB K i n T := by
  funext x y z
  rw [Bool.eq_iff_iff, gtB_iff, htB_iff]
  constructor
  · rintro ⟨k, h1, h2, h3⟩; exact ⟨k, by omega, h3⟩
  · rintro ⟨k, h1, h3⟩; exact ⟨k, by omega, by omega, h3⟩
def MT (K : CS) (i n t c : Nat) (τ : gS) : Prop := ∀ x y z, x ≤ 9 → y ≤ 9 → z ≤ 9 → τ.1 95 (100 * x + 10 * y + z) = bI (gtB K i n t c x y z)
theorem narb1 : vp_nar .boolean 1 = 1 := by decide
theorem narb0 : vp_nar .boolean 0 = 0 := by decide
theorem shades60 {K : CS} {i n : Nat} (hK : okK K) (hi : i < kS K) (hn : n ≤ 5) : ∀ (c f t : Nat) (τ : gS), c + t = kD K ^ n → c < f → SM (τ.1 83) K → MT K i n t c τ →
    ∃ τ', F_X12_shades_60 f (nI i) (nI n) (nI (S3 (gtB K i n t c))) (nI c + (-1)) τ = some (nI (S3 (htB K i n (kD K ^ n))), τ') ∧ Ag τ τ' := by
  intro c
  have hT := pow_le (hK.2.1) hn
  induction c with
  | zero =>
    intro f t τ hc hf hM hm
    obtain ⟨f, rfl⟩ : ∃ z, f = z + 1 := ⟨f - 1, by omega⟩
    refine ⟨τ, ?_, Ag.rf τ⟩
    rw [F_X12_shades_60, if_pos (by decide), show t = kD K ^ n by omega, gtB_htB]
  | succ c ih =>
    intro f t τ hc hf hM hm
    obtain ⟨f, rfl⟩ : ∃ z, f = z + 1 := ⟨f - 1, by omega⟩
    rw [nI_m1 (by omega), Nat.add_sub_cancel]
    obtain ⟨g, hg⟩ := shadeM (c := c) hM hK hi hn (by omega)
    have hok := shQ_ok K i n c
    have hq0 := shQ_w K i n c
    have l1 := shN_lt hok
    have hs3 := S3_le (gtB K i n t (c + 1))
    obtain ⟨k1, k2, k3, -⟩ := id hok
    generalize hQ : shQ K i n c = Q at *
    have hev : (Q.1, Q.2.1, Q.2.2.1, (0 : Nat)) = Q := by rw [← hq0]
    have hfun : gtB K i n (t + 1) c = fun x y z => gtB K i n t (c + 1) x y z || decide ((Q.1, Q.2.1, Q.2.2.1, (0 : Nat)) = (x, y, z, (0 : Nat))) := by
      funext x y z; rw [gtB, hQ, hev]
    have hr : inR (nI (shN Q)) 1000 := inR_t l1 (by decide)
    rw [F_X12_shades_60, if_neg (nn0 (by omega)), hg, ob2_s]
    simp only [ck_t hr, F_X12_shades_91, bd_e, narb1]
    rw [TN_nI (by omega), s1_ne (by decide)]
    let υ := sI (s1 τ 87 g) 95 (shN Q) 1
    have hMυ : SM (υ.1 83) K := by show SM ((sI (s1 τ 87 g) 95 (shN Q) 1).1 83) K; rw [sI_ne (by decide), s1_ne (by decide)]; exact hM
    have hAg : Ag τ υ := (Ag_s1 (by decide)).tr (Ag_sI (by decide))
    have hmt : MT K i n (t + 1) c υ := by
      intro x y z hx hy hz
      show (sI (s1 τ 87 g) 95 (shN Q) 1).1 95 _ = _
      rw [hfun]
      dsimp only
      by_cases q : 100 * x + 10 * y + z = shN Q
      · rw [q, sI_at]
        unfold shN at q
        have e1 : Q.1 = x := by omega
        have e2 : Q.2.1 = y := by omega
        have e3 : Q.2.2.1 = z := by omega
        rw [e1, e2, e3]; simp [bI]
      · rw [sI_o q, s1_ne (by decide), hm x y z hx hy hz]
        have : ¬ ((Q.1, Q.2.1, Q.2.2.1, (0 : Nat)) = (x, y, z, (0 : Nat))) := fun e => q (by rw [hev] at e; rw [e]; rfl)
        simp [this]
    have hcell : τ.1 95 (shN Q) = bI (gtB K i n t (c + 1) Q.1 Q.2.1 Q.2.2.1) := hm _ _ _ k1 k2 k3
    rw [hcell]
    obtain ⟨τ', r1, r2⟩ := ih f (t + 1) υ (by omega) (by omega) hMυ hmt
    refine ⟨τ', ?_, hAg.tr r2⟩
    by_cases hh : gtB K i n t (c + 1) Q.1 Q.2.1 Q.2.2.1 = true
    · rw [hh, if_neg (by decide), Int32.add_zero, ← r1, hfun, S3_old hh]
    · have hh' : gtB K i n t (c + 1) Q.1 Q.2.1 Q.2.2.1 = false := by simpa using hh
      rw [hh', if_pos (by decide), ← r1, hfun, S3_new (by omega) (by omega) (by omega) hh', show nI (S3 (gtB K i n t (c + 1))) + 1 = nI (S3 (gtB K i n t (c + 1)) + 1) from nI_1 _]
theorem shades24 {K : CS} {i n : Nat} (hK : okK K) (hi : i < kS K) (hn : n ≤ 5) : ∀ (m j f : Nat) (τ : gS), j + m = 1000 → m < f → SM (τ.1 83) K → (∀ k, k < j → τ.1 95 k = 0) →
    ∃ τ', F_X12_shades_24 f (nI i) (nI n) (nI j) τ = some (nI (S3 (htB K i n (kD K ^ n))), τ') ∧ Ag τ τ' := by
  intro m
  induction m with
  | zero =>
    intro j f τ hj hf hM hz
    obtain ⟨f, rfl⟩ : ∃ z, f = z + 1 := ⟨f - 1, by omega⟩
    have hT := pow_le (hK.2.1) hn
    rw [F_X12_shades_24, if_pos (show (1000 : Int32) ≤ nI j from nI_le (a := 1000) (by omega) (by omega)), hM.2.1, powM hn, ob_s, bd_e, Int32.sub_eq_add_neg]
    obtain ⟨τ', r1, r2⟩ := shades60 (n := n) hK hi hn (kD K ^ n) fu 0 τ (by omega) (by unfold fu; omega) hM (fun x y z hx hy hz' => by rw [hz _ (by omega)]; rfl)
    refine ⟨τ', Eq.trans ?_ r1, r2⟩
    show _ = F_X12_shades_60 fu (nI i) (nI n) (nI (S3 (fun _ _ _ => false))) _ τ
    rw [S3_z]; rfl
  | succ m ih =>
    intro j f τ hj hf hM hz
    obtain ⟨f, rfl⟩ : ∃ z, f = z + 1 := ⟨f - 1, by omega⟩
    rw [F_X12_shades_24, if_neg (show ¬ (1000 : Int32) ≤ nI j from nI_ge (b := 1000) (by omega) (by omega)), ck_t (inR_t (by omega) (by decide)), TN_nI (by omega), bd_e, bd_e, show nI j + 1 = nI (j + 1) from nI_1 j, narb0]
    obtain ⟨τ', r1, r2⟩ := ih (j + 1) f (sI τ 95 j 0) (by omega) (by omega) (by rw [sI_ne (by decide)]; exact hM) (fun k hk => by
      by_cases q : k = j
      · rw [q, sI_at]
      · rw [sI_o q]; exact hz k (by omega))
    exact ⟨τ', r1, (Ag_sI (by decide)).tr r2⟩
theorem step_shades {σ : gS} (hI : Inv σ) (x1 x2 : Int32) : ∃ r σ1 σ2, F_X11_shades_0 x1 x2 σ = some (r, σ1) ∧ F_X12_shades_0 x1 x2 σ1 = some (r, σ2) ∧ Inv σ2 := by
  obtain ⟨⟨K, w, q, m, ⟨hK, hS, hw, hq, hM, -, -, -, -, -⟩, -⟩, -⟩ := id hI
  have h8 : kS K ≤ 8 := hK.1
  have h4 : kD K ≤ 4 := hK.2.1
  by_cases c1 : 0 ≤ x1.toInt ∧ x1.toInt < (kS K : Nat)
  · by_cases c2 : 0 ≤ x2.toInt ∧ x2.toInt ≤ 5
    · obtain ⟨i, hi, rfl⟩ := of_rng c1 (by omega)
      obtain ⟨n, hn, rfl⟩ := of_rng (x := x2) (n := 6) (by omega) (by decide)
      have hok : okQ (0, 0, 0, 0) := by unfold okQ; decide
      obtain ⟨τ, w1, ⟨-, w3, -, -⟩, w6⟩ := walkI (n := n) (v := (0, 0, 0, 0)) hS hK hi (by omega) hok rfl
      have w1' : F_X0_walk_0 (nI i) (nI n) 0 σ = some τ := w1
      have hMτ : SM (τ.1 83) K := by rw [w6.1 83 (by decide) (by decide) (by decide)]; exact hM
      obtain ⟨τ', r1, r2⟩ := shades24 (n := n) hK hi (by omega) 1000 0 fu τ (by omega) (by unfold fu; omega) hMτ (fun k hk => absurd hk (by omega))
      refine ⟨nI (S3 (htB K i n (kD K ^ n))), τ, τ', ?_, ?_, hI.keep (w6.ag.tr r2)⟩
      · unfold F_X11_shades_0
        rw [hsqI hS.1 h8, if_bP, if_pos c1, if_neg (by rw [lt0]; omega), if_pos (by rw [L5]; exact nI_le (by omega) (by decide)), w1', ob_s, w3]
      · unfold F_X12_shades_0
        rw [isqM hMτ.1 h8, ob_s, if_bP, if_pos c1, inL _ 0 5 (p := 0) (q := 5) rfl rfl, if_bP, if_pos c2]
        exact r1
    · refine ⟨-1, σ, σ, ?_, ?_, hI⟩
      · unfold F_X11_shades_0
        rw [hsqI hS.1 h8, if_bP, if_pos c1]
        by_cases d : x2 < 0
        · rw [if_pos d]
        · rw [if_neg d, if_neg (fun e => c2 (by rw [lt0] at d; rw [Int32.le_iff_toInt_le, show (5 : Int32).toInt = 5 from rfl] at e; omega))]
      · unfold F_X12_shades_0
        rw [isqM hM.1 h8, ob_s, if_bP, if_pos c1, inL _ 0 5 (p := 0) (q := 5) rfl rfl, if_bP, if_neg c2]
  · refine ⟨-1, σ, σ, ?_, ?_, hI⟩
    · unfold F_X11_shades_0
      rw [hsqI hS.1 h8, if_bP, if_neg c1]
    · unfold F_X12_shades_0
      rw [isqM hM.1 h8, ob_s, if_bP, if_neg c1]
