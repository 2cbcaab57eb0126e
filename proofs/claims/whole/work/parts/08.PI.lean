/-! PURE I: rows, shades: the model; the steps -/
theorem pow_le {b n : Nat} (hb : b ≤ 4) (hn : n ≤ 5) : b ^ n ≤ 1024 := Nat.le_trans (Nat.pow_le_pow_left hb n) (Nat.le_trans (Nat.pow_le_pow_right (by decide) hn) (by decide))
theorem BF.ag {σ τ : gS} (h : BF σ τ) : Ag σ τ := ⟨fun c hc => h.1 c (by omega) (by omega) (by omega), fun c hc => h.2 c (by omega), by rw [h.1 4 (by decide) (by decide) (by decide)], by rw [h.1 82 (by decide) (by decide) (by decide)], by rw [h.1 82 (by decide) (by decide) (by decide)], by rw [h.1 82 (by decide) (by decide) (by decide)]⟩
theorem BF.sc {σ τ : gS} {K : CS} (h : BF σ τ) (hS : SC 10 σ K) : SC 10 τ K := hS.keep (h.1 _ (by decide) (by decide) (by decide)) (h.1 _ (by decide) (by decide) (by decide)) (h.1 _ (by decide) (by decide) (by decide)) (h.1 _ (by decide) (by decide) (by decide))
theorem nn0 {j : Nat} (h : j < 2 ^ 31) : ¬ nI j < (0 : Int32) := fun q => by rw [L0, nI_ltI h (by decide)] at q; omega
theorem S3_z : S3 (fun _ _ _ => false) = 0 := by decide
theorem walkI {σ : gS} {K : CS} {i n : Nat} {v : QD} (hS : SC 10 σ K) (hK : okK K) (hi : i < kS K) (hn : n ≤ 5) (hv : okQ v) (hw : v.2.2.2 = 0) :
    ∃ τ, F_X0_walk_0 (nI i) (nI n) (nI (cd v)) σ = some τ ∧ BP K i n v (kD K ^ n) τ ∧ BF σ τ := by
  have key : ∀ (m j f : Nat) (τ : gS), j + m = 64 → m < f → (∀ k, k < j → τ.2 76 k = 0) → τ.1 73 0 = 0 → τ.1 73 1 = 0 → BF σ τ → ∃ τ', F_X0_walk_13 f (nI i) (nI n) (nI (cd v)) (nI j) τ = some τ' ∧ BP K i n v (kD K ^ n) τ' ∧ BF σ τ' := by
    intro m
    induction m with
    | zero =>
      intro j f τ hj hf hz h0 h1 hB
      obtain ⟨f, rfl⟩ : ∃ z, f = z + 1 := ⟨f - 1, by omega⟩
      rw [F_X0_walk_13, if_pos (show (64 : Int32) ≤ nI j from nI_le (a := 64) (by omega) (by omega))]
      have hp := pow_le (hK.2.1) hn
      have hBP : BP K i n v (0 * kD K ^ n) τ := by
        rw [Nat.zero_mul]
        refine ⟨h0, by rw [h1]; show (0 : Int32) = nI (S3 (fun _ _ _ => false)); rw [S3_z]; rfl, fun x y z hx hy hz' => ?_, fun hp => absurd hp (by show ¬ 0 < 0; omega)⟩
        rw [hz _ (by omega)]
        show (0#64).getLsbD _ = false
        simp
      obtain ⟨τ', b1, b2, b3, -⟩ := batheI hK hi hn hv hw n 0 0 7 τ (by omega) (by omega) (by omega) (hB.sc hS) hBP (fun j hj => absurd hj (by omega))
      have b1' : F_X0_bathe 7 (nI i) 0 0 (nI n) (nI (cd v)) τ = some τ' := b1
      rw [b1', ob_s]
      refine ⟨τ', rfl, ?_, hB.tr b3⟩
      rw [Nat.zero_add, Nat.one_mul] at b2
      exact b2
    | succ m ih =>
      intro j f τ hj hf hz h0 h1 hB
      obtain ⟨f, rfl⟩ : ∃ z, f = z + 1 := ⟨f - 1, by omega⟩
      rw [F_X0_walk_13, if_neg (show ¬ (64 : Int32) ≤ nI j from nI_ge (b := 64) (by omega) (by omega)), ck_t (inR_t (by omega) (by decide)), TN_nI (by omega), bd_e, bd_e, show nI j + 1 = nI (j + 1) from nI_1 j]
      refine ih (j + 1) f _ (by omega) (by omega) (fun k hk => ?_) h0 h1 (hB.tr ⟨fun _ _ _ _ => rfl, fun c hc => sJ_ne hc⟩)
      rw [sJ_eq]; unfold vp_updL
      by_cases q : k = j
      · rw [if_pos q]
      · rw [if_neg q]; exact hz k (by omega)
  unfold F_X0_walk_0
  rw [bd_e, bd_e]
  refine key 64 0 fu _ (by omega) (by unfold fu; omega) (fun k hk => absurd hk (by omega)) ?_ (sI_at _ _ _ _) ⟨fun c h1 h2 h3 => ?_, fun c h1 => rfl⟩
  · rw [sI_o (by decide), sI_at]
  · rw [sI_ne h1, sI_ne h1]
/- the model -/
theorem powM {b k : Nat} (hk : k ≤ 5) : F_X12_power_0 (nI b) (nI k) = some (nI (b ^ k)) := by
  have key : ∀ (m j f : Nat), j + m = k → m < f → F_X12_power_4 f (nI b) (nI k) (nI (b ^ j)) (nI j) = some (nI (b ^ k)) := by
    intro m
    induction m with
    | zero =>
      intro j f hj hf
      obtain ⟨f, rfl⟩ : ∃ z, f = z + 1 := ⟨f - 1, by omega⟩
      rw [F_X12_power_4, if_pos (nI_le (by omega) (by omega)), show j = k by omega]
    | succ m ih =>
      intro j f hj hf
      obtain ⟨f, rfl⟩ : ∃ z, f = z + 1 := ⟨f - 1, by omega⟩
      rw [F_X12_power_4, if_neg (nI_ge (by omega) (by omega)), bd_e, bd_e, pk_mul, ← Nat.pow_succ, show nI j + 1 = nI (j + 1) from nI_1 j]
      exact ih (j + 1) f (by omega) (by omega)
  exact key k 0 fu (by omega) (by unfold fu; omega)
theorem whiM {σ : gS} {i : Nat} (hi : i < 8) : F_X12_whitens_0 (nI i) σ = some (s1 σ 87 (pq (σ.1 87) i (0, 0, 0, 0))) := by
  unfold F_X12_whitens_0
  have st : ∀ (f j : Nat) (τ : gS), j < 3 → F_X12_whitens_2 (f + 1) (nI i) (nI j) τ = F_X12_whitens_2 f (nI i) (nI (j + 1)) (sI τ 87 (3 * i + j) 0) := by
    intro f j τ hj
    rw [F_X12_whitens_2, if_neg (by rw [L3]; exact nI_ge (by omega) (by omega)), ix3, ck_t (inR_t (by omega) (by decide)), TN_nI (by omega), bd_e, bd_e, show nI j + 1 = nI (j + 1) from nI_1 j]
  rw [fu_s 4]
  show F_X12_whitens_2 (19996 + 4) (nI i) (nI 0) σ = _
  rw [st _ 0 _ (by decide), st _ 1 _ (by decide), st _ 2 _ (by decide), F_X12_whitens_2, if_pos (by decide), L24, nI_add, ck_t (inR_t (by omega) (by decide)), TN_nI (by omega), bd_e]
  rw [sI_s1 σ, sI_s1', sI_s1', sI_s1']
  congr 2
  funext k
  unfold pq upd
  by_cases h1 : k = 24 + i
  · rw [if_pos h1, if_neg (by omega), if_neg (by omega), if_neg (by omega), if_pos h1]; rfl
  · rw [if_neg h1]
    by_cases h2 : k = 3 * i + 2
    · rw [if_pos h2, if_neg (by omega), if_neg (by omega), if_pos h2]; rfl
    · rw [if_neg h2]
      by_cases h3 : k = 3 * i + 1
      · rw [if_pos h3, if_neg (by omega), if_pos h3]; rfl
      · rw [if_neg h3]
        by_cases h4 : k = 3 * i
        · rw [if_pos (show k = 3 * i + 0 by omega), if_pos h4]; rfl
        · rw [if_neg (show ¬ k = 3 * i + 0 by omega), if_neg h4, if_neg h3, if_neg h2, if_neg h1]
def shN (q : QD) : Nat := 100 * q.1 + 10 * q.2.1 + q.2.2.1
theorem shN_lt {q : QD} (h : okQ q) : shN q < 1000 := by unfold shN; unfold okQ at h; omega
theorem shN_inj {a b : QD} (ha : okQ a) (hb : okQ b) (h0 : a.2.2.2 = b.2.2.2) (h : shN a = shN b) : a = b := by
  obtain ⟨a1, a2, a3, a4⟩ := a
  obtain ⟨b1, b2, b3, b4⟩ := b
  unfold okQ at ha hb
  unfold shN at h
  simp only at *
  have e1 : a1 = b1 := by omega
  have e2 : a2 = b2 := by omega
  have e3 : a3 = b3 := by omega
  rw [e1, e2, e3, h0]
theorem shadeM {σ : gS} {K : CS} {i n c : Nat} (hM : SM (σ.1 83) K) (hK : okK K) (hi : i < kS K) (hn : n ≤ 5) (hc : c < kD K ^ n) : ∃ g, F_X12_shadeOf_0 (nI i) (nI c) (nI n) σ = some (nI (shN (shQ K i n c)), s1 σ 87 g) := by
  have h8 : kS K ≤ 8 := hK.1
  have h4 : kD K ≤ 4 := hK.2.1
  have hD : 0 < kD K := by have := hK.2.2.2.1; omega
  have hp := pow_le h4 hn
  unfold F_X12_shadeOf_0
  rw [whiM (by omega), ob_s, bd_e]
  have key : ∀ (j f : Nat), j ≤ n → j < f → F_X12_shadeOf_10 f (nI i) (nI c) (nI j + (-1)) (s1 σ 87 (pq (σ.1 87) i (shQ K i (n - j) (c / kD K ^ j)))) = some (nI (shN (shQ K i n c)), s1 σ 87 (pq (σ.1 87) i (shQ K i n c))) := by
    intro j
    induction j with
    | zero =>
      intro f hj hf
      obtain ⟨f, rfl⟩ : ∃ z, f = z + 1 := ⟨f - 1, by omega⟩
      rw [F_X12_shadeOf_10, if_pos (by decide), Nat.pow_zero, Nat.div_one, Nat.sub_zero, ix30, bd_e, show nI (3 * i) + 1 = nI (3 * i + 1) from nI_1 _, show nI (3 * i) + 2 = nI (3 * i + 2) from nI_add _ 2, ck_t (inR_t (by omega) (by decide)), ck_t (inR_t (by omega) (by decide)), ck_t (inR_t (by omega) (by decide)), TN_nI (by omega), TN_nI (by omega), TN_nI (by omega), s1_eq]
      obtain ⟨p1, p2, p3, -⟩ := pq_at (σ.1 87) (show i < 8 by omega) (shQ K i n c)
      rw [p1, p2, p3, show (100 : Int32) = nI 100 from rfl, L10, pk_mul, pk_mul, nI_add, nI_add]
      rfl
    | succ j ih =>
      intro f hj hf
      obtain ⟨f, rfl⟩ : ∃ z, f = z + 1 := ⟨f - 1, by omega⟩
      rw [nI_m1 (by omega), Nat.add_sub_cancel]
      have hpj : 0 < kD K ^ j := Nat.pow_pos hD
      have hpj4 : kD K ^ j ≤ 1024 := pow_le h4 (by omega)
      have hcd : c / kD K ^ j ≤ c := Nat.div_le_self _ _
      have hM' : SM ((s1 σ 87 (pq (σ.1 87) i (shQ K i (n - (j + 1)) (c / kD K ^ (j + 1))))).1 83) K := by rw [s1_ne (by decide)]; exact hM
      rw [F_X12_shadeOf_10, if_neg (nn0 (by omega)), hM'.2.1, powM (by omega), ob_s, ck_t (nI_ne0 (by omega) (by omega)), ck_t (nI_ne0 (by omega) (by omega)), pk_div (by omega) hpj (by omega), pk_rem (by omega) hD (by omega)]
      obtain ⟨p1, p2, p3, p4⟩ := pq_at (σ.1 87) (show i < 8 by omega) (shQ K i (n - (j + 1)) (c / kD K ^ (j + 1)))
      rw [bathM hM' hK (by decide) hi (Nat.mod_lt _ hD) (shQ_ok K i _ _) (by rw [s1_eq]; exact p1) (by rw [s1_eq]; exact p2) (by rw [s1_eq]; exact p3) (by rw [s1_eq]; exact p4), ob_s, bd_e, s1_eq, s1_s1, pq_pq]
      have hm4 : c / kD K ^ j % kD K < kD K := Nat.mod_lt _ hD
      have hq : afQ K i (c / kD K ^ j % kD K) (shQ K i (n - (j + 1)) (c / kD K ^ (j + 1))) = shQ K i (n - j) (c / kD K ^ j) := by
        unfold afQ
        rw [if_pos (by omega), if_pos (shQ_w K i _ _), show n - j = (n - (j + 1)) + 1 by omega, shQ, Nat.div_div_eq_div_mul, ← Nat.pow_succ]
      rw [hq]
      exact ih f (by omega) (by omega)
  have h0 : shQ K i (n - n) (c / kD K ^ n) = (0, 0, 0, 0) := by rw [Nat.sub_self]; rfl
  have := key n fu (Nat.le_refl _) (by unfold fu; omega)
  rw [h0] at this
  refine ⟨_, Eq.trans ?_ this⟩
  rw [Int32.sub_eq_add_neg]
/-- the least match -/
theorem ctN_pos {K : CS} {i n : Nat} {v : QD} : ∀ c, (0 < ctN K i n v c) ↔ ∃ x, x < c ∧ mtB K i n v x = true
  | 0 => ⟨fun h => absurd h (by show ¬ 0 < 0; omega), fun ⟨x, hx, _⟩ => absurd hx (by omega)⟩
  | c + 1 => by
    rw [ctN_s]
    constructor
    · intro h
      by_cases hm : mtB K i n v c = true
      · exact ⟨c, by omega, hm⟩
      · rw [if_neg hm, Nat.add_zero] at h
        obtain ⟨x, hx, hm'⟩ := (ctN_pos c).mp h
        exact ⟨x, by omega, hm'⟩
    · intro ⟨x, hx, hm⟩
      by_cases hxc : x = c
      · subst hxc; rw [if_pos hm]; omega
      · have := (ctN_pos c).mpr ⟨x, by omega, hm⟩
        omega
theorem lmN_spec {K : CS} {i n : Nat} {v : QD} : ∀ c, 0 < ctN K i n v c → lmN K i n v c < c ∧ mtB K i n v (lmN K i n v c) = true ∧ ∀ x, x < lmN K i n v c → mtB K i n v x = false
  | 0, h => absurd h (by show ¬ 0 < 0; omega)
  | c + 1, h => by
    unfold lmN
    by_cases hp : 0 < ctN K i n v c
    · rw [if_pos hp]
      obtain ⟨a, b, d⟩ := lmN_spec c hp
      exact ⟨by omega, b, d⟩
    · rw [if_neg hp]
      have hz : ∀ x, x < c → mtB K i n v x = false := fun x hx => by
        by_cases hm : mtB K i n v x = true
        · exact absurd ((ctN_pos c).mpr ⟨x, hx, hm⟩) hp
        · simpa using hm
      refine ⟨by omega, ?_, hz⟩
      obtain ⟨x, hx, hm⟩ := (ctN_pos (c + 1)).mp h
      by_cases hxc : x = c
      · rw [← hxc]; exact hm
      · rw [hz x (by omega)] at hm; cases hm
theorem dig165 {σ : gS} {K : CS} (hM : SM (σ.1 83) K) (hK : okK K) (hD : 0 < kD K) (o : Nat) : ∀ (t f z : Nat), t < f → o + t < 2 ^ 31 → z < 2 ^ 31 → F_X12_rows_165 f (nI o) (nI z) (nI (o + t)) σ = some (nI (z / kD K ^ t % kD K), σ) := by
  have h4 : kD K ≤ 4 := hK.2.1
  intro t
  induction t with
  | zero =>
    intro f z hf ho hz
    obtain ⟨f, rfl⟩ : ∃ z, f = z + 1 := ⟨f - 1, by omega⟩
    rw [F_X12_rows_165, if_pos (nI_le (by omega) (by omega)), hM.2.1, ck_t (nI_ne0 (by omega) (by omega)), pk_rem hz hD (by omega), Nat.pow_zero, Nat.div_one]
  | succ t ih =>
    intro f z hf ho hz
    obtain ⟨f, rfl⟩ : ∃ z, f = z + 1 := ⟨f - 1, by omega⟩
    have := Nat.div_le_self z (kD K)
    rw [F_X12_rows_165, if_neg (nI_ge (by omega) (by omega)), hM.2.1, ck_t (nI_ne0 (by omega) (by omega)), pk_div hz hD (by omega), bd_e, bd_e, nI_m1 (by omega), show o + (t + 1) - 1 = o + t by omega, ih f _ (by omega) (by omega) (by omega), Nat.div_div_eq_div_mul, ← Nat.pow_succ']
/-- the model's walk, down from the last code -/
theorem rows102 {K : CS} {i n : Nat} {v : QD} {x6 : Int32} (hK : okK K) (hi : i < kS K) (hn : n ≤ 5) (hv : okQ v) (hw : v.2.2.2 = 0) : ∀ (c f m : Nat) (x9 : Int32) (τ : gS), c ≤ kD K ^ n → c < f → SM (τ.1 83) K → m + ctN K i n v c = ctN K i n v (kD K ^ n) → ((x9 = -4 ∧ ∀ x, c ≤ x → x < kD K ^ n → mtB K i n v x = false) ∨ (∃ z, x9 = nI z ∧ c ≤ z ∧ z < kD K ^ n ∧ mtB K i n v z = true ∧ ∀ x, c ≤ x → x < z → mtB K i n v x = false)) →
    ∃ g y9, ((y9 = -4 ∧ ¬ 0 < ctN K i n v (kD K ^ n)) ∨ (y9 = nI (lmN K i n v (kD K ^ n)) ∧ 0 < ctN K i n v (kD K ^ n))) ∧ F_X12_rows_102 f (nI i) (nI n) x6 (nI (shN v)) (nI m) x9 (nI c + (-1)) τ = (if 0 ≤ x6 then (if y9 = (-4) then (some ((-4), s1 τ 87 g)) else (if x6 < nI n then (bd (nI n - 1) (fun x163 => F_X12_rows_165 fu x6 y9 x163 (s1 τ 87 g))) else (some ((-4), s1 τ 87 g)))) else (some (nI (ctN K i n v (kD K ^ n)), s1 τ 87 g))) := by
  intro c
  have hT := pow_le (hK.2.1) hn
  induction c with
  | zero =>
    intro f m x9 τ hc hf hM hm hx
    obtain ⟨f, rfl⟩ : ∃ z, f = z + 1 := ⟨f - 1, by omega⟩
    refine ⟨τ.1 87, x9, ?_, ?_⟩
    · rcases hx with ⟨h1, h2⟩ | ⟨z, h1, h2, h3, h4, h5⟩
      · refine Or.inl ⟨h1, fun q => ?_⟩
        obtain ⟨x, hx, hm⟩ := (ctN_pos _).mp q
        rw [h2 x (by omega) hx] at hm; cases hm
      · have hp := (ctN_pos (K := K) (i := i) (n := n) (v := v) (kD K ^ n)).mpr ⟨z, h3, h4⟩
        obtain ⟨a, b, d⟩ := lmN_spec _ hp
        refine Or.inr ⟨?_, hp⟩
        rw [h1]
        congr 1
        rcases Nat.lt_trichotomy z (lmN K i n v (kD K ^ n)) with q | q | q
        · rw [d z q] at h4; cases h4
        · exact q
        · rw [h5 _ (by omega) q] at b; cases b
    · have : m = ctN K i n v (kD K ^ n) := by rw [← hm]; rfl
      rw [F_X12_rows_102, if_pos (by decide), s1_id, this]
  | succ c ih =>
    intro f m x9 τ hc hf hM hm hx
    obtain ⟨f, rfl⟩ : ∃ z, f = z + 1 := ⟨f - 1, by omega⟩
    rw [nI_m1 (by omega), Nat.add_sub_cancel]
    obtain ⟨g, hg⟩ := shadeM (c := c) hM hK hi hn (by omega)
    have hok := shQ_ok K i n c
    have l1 := shN_lt hok
    have l2 := shN_lt hv
    rw [F_X12_rows_102, if_neg (nn0 (by omega)), hg, ob2_s, if_nI_eq (by omega) (by omega)]
    have hM' : SM ((s1 τ 87 g).1 83) K := by rw [s1_ne (by decide)]; exact hM
    rw [ctN_s] at hm
    by_cases hq : shN (shQ K i n c) = shN v
    · have hmt : mtB K i n v c = true := decide_eq_true (shN_inj hok hv (by rw [hw, shQ_w]) hq)
      rw [hmt, if_pos rfl] at hm
      obtain ⟨g', y9, r1, r2⟩ := ih f (m + 1) (nI c) (s1 τ 87 g) (by omega) (by omega) hM' (by omega) (Or.inr ⟨c, rfl, Nat.le_refl _, by omega, hmt, fun x a b => absurd a (by omega)⟩)
      refine ⟨g', y9, r1, ?_⟩
      rw [if_pos hq, bd_e, F_X12_rows_128, bd_e, show nI m + 1 = nI (m + 1) from nI_1 m, r2, s1_s1]
    · have hmt : mtB K i n v c = false := decide_eq_false (fun q => hq (by rw [q]))
      rw [hmt, if_neg (by decide)] at hm
      obtain ⟨g', y9, r1, r2⟩ := ih f m x9 (s1 τ 87 g) (by omega) (by omega) hM' (by omega) (by
        have st : ∀ x, c ≤ x → (c + 1 ≤ x ∨ mtB K i n v x = false) := fun x hx => by
          by_cases q : x = c
          · right; rw [q]; exact hmt
          · left; omega
        rcases hx with ⟨h1, h2⟩ | ⟨z, h1, h2, h3, h4, h5⟩
        · exact Or.inl ⟨h1, fun x a b => (st x a).elim (fun q => h2 x q b) id⟩
        · exact Or.inr ⟨z, h1, by omega, h3, h4, fun x a b => (st x a).elim (fun q => h5 x q b) id⟩)
      refine ⟨g', y9, r1, ?_⟩
      rw [if_neg hq, F_X12_rows_128, bd_e, r2, s1_s1]
theorem isaI (x : Int32) : F_X9_isAmount_0 x = bI (decide (0 ≤ x.toInt ∧ x.toInt ≤ 9)) := by
  unfold F_X9_isAmount_0
  by_cases h : 0 ≤ x.toInt ∧ x.toInt ≤ 9
  · rw [if_neg (by rw [lt0]; omega), if_neg (fun q => by rw [Int32.lt_iff_toInt_lt, show (9 : Int32).toInt = 9 from rfl] at q; omega)]
    exact bI_t h
  · by_cases h1 : x < 0
    · rw [if_pos h1]; exact bI_f h
    · rw [if_neg h1, if_pos (by rw [Int32.lt_iff_toInt_lt, show (9 : Int32).toInt = 9 from rfl]; rw [lt0] at h1; omega)]; exact bI_f h
theorem ofsI {a b c : Nat} (ha : a ≤ 9) (hb : b ≤ 9) (hc : c ≤ 9) : F_X9_ofShade_0 (nI a) (nI b) (nI c) = nI (cd (a, b, c, 0)) := by
  unfold F_X9_ofShade_0
  rw [shl_c (j := 0) (k := 4) (by decide) (by omega), shl_c (j := 0) (k := 8) (by decide) (by omega), nI_or, nI_or, or_add (a := a) (b := b) (k := 4) (by omega), or_add (k := 8) (by omega)]
  congr 1
  unfold cd
  dsimp only
  omega
theorem step_rows {σ : gS} (hI : Inv σ) (x1 x2 x3 x4 x5 x6 : Int32) : ∃ r σ1 σ2, F_X11_rows_0 x1 x2 x3 x4 x5 x6 σ = some (r, σ1) ∧ F_X12_rows_0 x1 x2 x3 x4 x5 x6 σ1 = some (r, σ2) ∧ Inv σ2 := by
  obtain ⟨⟨K, w, q, m, ⟨hK, hS, hw, hq, hM, -, -, -, -, -⟩, -⟩, -⟩ := id hI
  have h8 : kS K ≤ 8 := hK.1
  have h4 : kD K ≤ 4 := hK.2.1
  by_cases hv : (0 ≤ x1.toInt ∧ x1.toInt < (kS K : Nat)) ∧ (0 ≤ x5.toInt ∧ x5.toInt ≤ 5) ∧ -1 ≤ x6.toInt ∧ (0 ≤ x2.toInt ∧ x2.toInt ≤ 9) ∧ (0 ≤ x3.toInt ∧ x3.toInt ≤ 9) ∧ (0 ≤ x4.toInt ∧ x4.toInt ≤ 9)
  · obtain ⟨v1, v5, v6, v2, v3, v4⟩ := hv
    obtain ⟨i, hi, rfl⟩ := of_rng v1 (by omega)
    obtain ⟨n, hn, rfl⟩ := of_rng (x := x5) (n := 6) (by omega) (by decide)
    obtain ⟨a, ha, rfl⟩ := of_rng (x := x2) (n := 10) (by omega) (by decide)
    obtain ⟨b, hb, rfl⟩ := of_rng (x := x3) (n := 10) (by omega) (by decide)
    obtain ⟨c, hc, rfl⟩ := of_rng (x := x4) (n := 10) (by omega) (by decide)
    have hok : okQ (a, b, c, 0) := ⟨(by omega : a ≤ 9), (by omega : b ≤ 9), (by omega : c ≤ 9), (by decide : 0 ≤ 3)⟩
    have hD : 0 < kD K := by have := hK.2.2.2.1; omega
    obtain ⟨τ, w1, ⟨w2, -, -, w5⟩, w6⟩ := walkI (n := n) (v := (a, b, c, 0)) hS hK hi (by omega) hok rfl
    have hT := pow_le (n := n) h4 (by omega)
    have hct := ctN_le K i n (a, b, c, 0) (kD K ^ n)
    have l6 : (-1 : Int32) ≤ x6 := by rw [Int32.le_iff_toInt_le, show (-1 : Int32).toInt = -1 from rfl]; exact v6
    have cl : F_X11_rows_0 (nI i) (nI a) (nI b) (nI c) (nI n) x6 σ = (if x6 = (-1) then (some (τ.1 73 0, τ)) else (if (τ.1 73 0) ≤ 0 then (some ((-4), τ)) else (if nI n ≤ x6 then (some ((-4), τ)) else (ck (inR x6 5) (some (τ.1 74 (Int32.toNatClampNeg x6), τ)))))) := by
      unfold F_X11_rows_0
      rw [hsqI hS.1 h8, if_bP, if_pos v1, if_neg (by rw [lt0]; omega), if_neg (show ¬ (5 : Int32) < nI n from fun q => by rw [L5, nI_ltI (by decide) (by omega)] at q; omega), if_pos l6, isaI, if_bP, if_pos v2, isaI, if_bP, if_pos v3, isaI, if_bP, if_pos v4, ofsI (by omega) (by omega) (by omega), w1, ob_s]
    have hMτ : SM (τ.1 83) K := by rw [w6.1 83 (by decide) (by decide) (by decide)]; exact hM
    obtain ⟨g, y9, r1, r2⟩ := rows102 (i := i) (n := n) (v := (a, b, c, 0)) (x6 := x6) hK hi (by omega) hok rfl (kD K ^ n) fu 0 (-4) τ (Nat.le_refl _) (by unfold fu; omega) hMτ (by omega) (Or.inl ⟨rfl, fun x h1 h2 => absurd h1 (by omega)⟩)
    have md : F_X12_rows_0 (nI i) (nI a) (nI b) (nI c) (nI n) x6 τ = (if 0 ≤ x6 then (if y9 = (-4) then (some ((-4), s1 τ 87 g)) else (if x6 < nI n then (bd (nI n - 1) (fun x163 => F_X12_rows_165 fu x6 y9 x163 (s1 τ 87 g))) else (some ((-4), s1 τ 87 g)))) else (some (nI (ctN K i n (a, b, c, 0) (kD K ^ n)), s1 τ 87 g))) := by
      rw [← r2]
      unfold F_X12_rows_0
      rw [isqM hMτ.1 h8, ob_s, if_bP, if_pos v1, inL _ 0 9 (p := 0) (q := 9) rfl rfl, if_bP, if_pos v2, inL _ 0 9 (p := 0) (q := 9) rfl rfl, if_bP, if_pos v3, inL _ 0 9 (p := 0) (q := 9) rfl rfl, if_bP, if_pos v4, inL _ 0 5 (p := 0) (q := 5) rfl rfl, if_bP, if_pos v5, if_pos l6, bd_e, hMτ.2.1, powM (by omega), ob_s, bd_e, show (100 : Int32) = nI 100 from rfl, L10, pk_mul, pk_mul, nI_add, nI_add, Int32.sub_eq_add_neg]
      rfl
    have hAg : Ag σ (s1 τ 87 g) := w6.ag.tr (Ag_s1 (by decide))
    have hI2 := hI.keep hAg
    have hMg : SM ((s1 τ 87 g).1 83) K := by rw [s1_ne (by decide)]; exact hMτ
    rw [w2] at cl
    by_cases e6 : x6 = -1
    · subst e6
      rw [if_pos rfl] at cl
      rw [if_neg (by decide)] at md
      exact ⟨_, _, _, cl, md, hI2⟩
    · have p6 : 0 ≤ x6.toInt := by
        have : x6.toInt ≠ -1 := fun q => e6 (Int32.toInt_inj.mp (by rw [q]; rfl))
        omega
      have e60 : (0 : Int32) ≤ x6 := by rw [Int32.le_iff_toInt_le]; exact p6
      rw [if_neg e6] at cl
      rw [if_pos e60] at md
      rcases r1 with ⟨y1, y2⟩ | ⟨y1, y2⟩
      · rw [if_pos (show nI (ctN K i n (a, b, c, 0) (kD K ^ n)) ≤ 0 from nI_le (b := 0) (by omega) (by decide))] at cl
        rw [if_pos y1] at md
        exact ⟨_, _, _, cl, md, hI2⟩
      · rw [if_neg (show ¬ nI (ctN K i n (a, b, c, 0) (kD K ^ n)) ≤ 0 from nI_ge (a := 0) (by omega) (by omega))] at cl
        obtain ⟨lm1, -, -⟩ := lmN_spec _ y2
        rw [y1, if_neg (fun q => by have := congrArg Int32.toInt q; rw [nI_toInt (by omega), show (-4 : Int32).toInt = -4 from rfl] at this; omega)] at md
        by_cases hx : nI n ≤ x6
        · rw [if_pos hx] at cl
          rw [if_neg (fun q => by rw [nle (by omega)] at hx; rw [Int32.lt_iff_toInt_lt, nI_toInt (by omega)] at q; omega)] at md
          exact ⟨_, _, _, cl, md, hI2⟩
        · have hx' : x6.toInt < n := by rw [nle (by omega)] at hx; omega
          obtain ⟨o, ho, rfl⟩ := of_rng (x := x6) (n := n) ⟨p6, hx'⟩ (by omega)
          rw [if_neg hx, ck_t (inR_t (by omega) (by decide)), TN_nI (by omega), w5 y2 o ho] at cl
          rw [if_pos (nI_lt ho (by omega)), bd_e, L1, pk_sub (by omega)] at md
          have := dig165 hMg hK hD o (n - 1 - o) fu (lmN K i n (a, b, c, 0) (kD K ^ n)) (by unfold fu; omega) (by omega) (by omega)
          rw [show o + (n - 1 - o) = n - 1 by omega] at this
          rw [this] at md
          exact ⟨_, _, _, cl, md, hI2⟩
  · have cl : F_X11_rows_0 x1 x2 x3 x4 x5 x6 σ = some (-1, σ) := by
      unfold F_X11_rows_0
      rw [hsqI hS.1 h8, if_bP, isaI, if_bP, isaI, if_bP, isaI, if_bP]
      by_cases c1 : 0 ≤ x1.toInt ∧ x1.toInt < (kS K : Nat)
      · rw [if_pos c1]
        by_cases c2 : x5 < 0
        · rw [if_pos c2]
        · rw [if_neg c2]
          by_cases c3 : 5 < x5
          · rw [if_pos c3]
          · rw [if_neg c3]
            by_cases c4 : -1 ≤ x6
            · rw [if_pos c4]
              by_cases d2 : 0 ≤ x2.toInt ∧ x2.toInt ≤ 9
              · rw [if_pos d2]
                by_cases d3 : 0 ≤ x3.toInt ∧ x3.toInt ≤ 9
                · rw [if_pos d3]
                  by_cases d4 : 0 ≤ x4.toInt ∧ x4.toInt ≤ 9
                  · refine absurd ⟨c1, ?_, ?_, d2, d3, d4⟩ hv
                    · rw [lt0] at c2
                      rw [Int32.lt_iff_toInt_lt, show (5 : Int32).toInt = 5 from rfl] at c3
                      omega
                    · rw [Int32.le_iff_toInt_le] at c4; exact c4
                  · rw [if_neg d4]
                · rw [if_neg d3]
              · rw [if_neg d2]
            · rw [if_neg c4]
      · rw [if_neg c1]
    have md : F_X12_rows_0 x1 x2 x3 x4 x5 x6 σ = some (-1, σ) := by
      unfold F_X12_rows_0
      rw [isqM hM.1 h8, ob_s, if_bP, inL _ 0 9 (p := 0) (q := 9) rfl rfl, if_bP, inL _ 0 9 (p := 0) (q := 9) rfl rfl, if_bP, inL _ 0 9 (p := 0) (q := 9) rfl rfl, if_bP, inL _ 0 5 (p := 0) (q := 5) rfl rfl, if_bP]
      by_cases c1 : 0 ≤ x1.toInt ∧ x1.toInt < (kS K : Nat)
      · rw [if_pos c1]
        by_cases d2 : 0 ≤ x2.toInt ∧ x2.toInt ≤ 9
        · rw [if_pos d2]
          by_cases d3 : 0 ≤ x3.toInt ∧ x3.toInt ≤ 9
          · rw [if_pos d3]
            by_cases d4 : 0 ≤ x4.toInt ∧ x4.toInt ≤ 9
            · rw [if_pos d4]
              by_cases d5 : 0 ≤ x5.toInt ∧ x5.toInt ≤ 5
              · rw [if_pos d5, if_neg (fun c4 => hv ⟨c1, d5, by rw [Int32.le_iff_toInt_le] at c4; exact c4, d2, d3, d4⟩)]
              · rw [if_neg d5]
            · rw [if_neg d4]
          · rw [if_neg d3]
        · rw [if_neg d2]
      · rw [if_neg c1]
    exact ⟨_, _, _, cl, md, hI⟩
