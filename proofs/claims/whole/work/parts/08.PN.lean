/-! PURE N: plan: the class's search -/
def LSp (K : CS) (τ : gS) (d : Nat) (b b' : B3) (υ : gS) : Prop := PF' τ υ ∧ (∀ j, j ≤ d → υ.1 (68 + j) = τ.1 (68 + j)) ∧ (∀ j, j < d → υ.1 66 j = τ.1 66 j) ∧ JP K b' υ ∧ b'.1 ≤ 8 ∧ b.1 ≤ b'.1
/-- the loop over the doings, whatever a turn does -/
theorem ext23 {K : CS} {τ : gS} {d s p r : Nat} {b : B3} {g : Nat → Nat} {x4 : Int32} {rc : Int32 → Int32 → gS → Option gS} (hS : SC 10 τ K) (hK : okK K)
    (body : ∀ (e f : Nat) (υ : gS) (b' : B3), e < nN K → LSp K τ d b b' υ → ∃ υ', F_X5_extend_23 rc (f + 1) (nI d) (nI s) x4 (nI e) υ = F_X5_extend_23 rc f (nI d) (nI s) x4 (nI (e + 1)) υ' ∧ LSp K τ d b (fB g s (nN K ^ r) ((p * nN K + e) * nN K ^ r) b') υ') :
    ∀ (m e f : Nat) (υ : gS) (b' : B3), e + m = nN K → m < f → LSp K τ d b b' υ → ∃ υ', F_X5_extend_23 rc f (nI d) (nI s) x4 (nI e) υ = some υ' ∧ LSp K τ d b (fB g s (m * nN K ^ r) ((p * nN K + e) * nN K ^ r) b') υ' := by
  have h4 : kD K ≤ 4 := hK.2.1
  have h3 : kT K ≤ 3 := hK.2.2.1
  have hn9 : nN K ≤ 9 := by unfold nN; omega
  intro m
  induction m with
  | zero =>
    intro e f υ b' he hf hL
    obtain ⟨f, rfl⟩ : ∃ z, f = z + 1 := ⟨f - 1, by omega⟩
    refine ⟨υ, ?_, by rw [Nat.zero_mul]; exact hL⟩
    rw [F_X5_extend_23, dcI (hL.1.sc hS), if_pos (nI_le (by omega) (by omega))]
  | succ m ih =>
    intro e f υ b' he hf hL
    obtain ⟨f, rfl⟩ : ∃ z, f = z + 1 := ⟨f - 1, by omega⟩
    obtain ⟨υ1, r1, r2⟩ := body e f υ b' (by omega) hL
    obtain ⟨υ', z1, z2⟩ := ih (e + 1) f υ1 _ (by omega) (by omega) r2
    refine ⟨υ', r1.trans z1, ?_⟩
    rw [show (m + 1) * nN K ^ r = nN K ^ r + m * nN K ^ r by rw [Nat.succ_mul, Nat.add_comm], fB_app, show (p * nN K + e) * nN K ^ r + nN K ^ r = (p * nN K + (e + 1)) * nN K ^ r by rw [← Nat.add_assoc, Nat.add_mul (p * nN K + e), Nat.one_mul]]
    exact z2
/-- a turn up to the doing done -/
theorem ext64 {K : CS} {τ υ : gS} {w : Nat → Nat} {q : Nat → QD} {d s p e : Nat} {b b' : B3} {x4 : Int32} {rc : Int32 → Int32 → gS → Option gS} {g23 : Int32 → Int32 → Int32 → Int32 → gS → Option gS} (hS : SC 10 τ K) (hK : okK K) (hd : d < 4) (he : e < nN K) (hL : LSp K τ d b b' υ) (hq : RQ (τ.1 (68 + d)) (kS K) (fun i => rnQ K i d p (q i))) (hw : RW (τ.1 12) (kS K) w) (hx : x4 = 0 ∨ d + 1 = s) (hrow : ∀ j, j < d → τ.1 66 j = nI (ndN K (p / nN K ^ (d - 1 - j) % nN K))) :
    ∃ υ2, LSp K τ d b b' υ2 ∧ RQ (υ2.1 (68 + (d + 1))) (kS K) (fun i => rnQ K i (d + 1) (p * nN K + e) (q i)) ∧ (∀ j, j < d + 1 → υ2.1 66 j = nI (ndN K ((p * nN K + e) / nN K ^ (d + 1 - 1 - j) % nN K))) ∧ ∃ fl : Bool, (fl = false → ∀ i, i < kS K → rnQ K i (d + 1) (p * nN K + e) (q i) = rnQ K i d p (q i)) ∧
      F_X5_extend_64 rc g23 (nI d) (nI s) x4 (nI e) (sI υ 66 d (nI (ndN K e))) = if fl = false then F_X5_extend_126 rc g23 (nI d) (nI s) x4 (nI e) υ2 else if x4 = 0 then ob (rc (nI (d + 1)) (nI s) υ2) (fun σ123 => F_X5_extend_126 rc g23 (nI d) (nI s) x4 (nI e) σ123) else ob (F_X5_judge_0 (nI (rgN K w q s (p * nN K + e))) (nI s) υ2) (fun σ111 => F_X5_extend_126 rc g23 (nI d) (nI s) x4 (nI e) σ111) := by
  have h8 : kS K ≤ 8 := hK.1
  have hN := nN_pos K
  obtain ⟨l1, l2, l3, l4, l5, l6⟩ := hL
  let υ1 := sI υ 66 d (nI (ndN K e))
  have F1 : PF' υ υ1 := ⟨fun c hc => sI_ne (by omega), rfl⟩
  have hS1 : SC 10 υ1 K := F1.sc (l1.sc hS)
  have hq1 : RQ (υ1.1 (68 + d)) (kS K) (fun i => rnQ K i d p (q i)) := by
    show RQ ((sI υ 66 d (nI (ndN K e))).1 (68 + d)) _ _
    rw [sI_ne (by omega), l2 d (Nat.le_refl _)]; exact hq
  have hmod : (p * nN K + e) % nN K = e := by rw [Nat.mul_comm, Nat.mul_add_mod, Nat.mod_eq_of_lt he]
  have hdiv : (p * nN K + e) / nN K = p := by rw [Nat.mul_comm, Nat.mul_add_div hN, Nat.div_eq_of_lt he, Nat.add_zero]
  have hrn : ∀ i Q, afQ K i (ndN K e) (rnQ K i d p Q) = rnQ K i (d + 1) (p * nN K + e) Q := fun i Q => by
    show _ = afQ K i (ndN K ((p * nN K + e) % nN K)) (rnQ K i d ((p * nN K + e) / nN K) Q)
    rw [hmod, hdiv]
  have ap := applyI (c3 := 68 + (d + 1)) hS1 hK hq1 (ndN_ok he) (by omega) (by omega) (by omega) (by omega)
  generalize hfl : anyb (kS K) (fun k => decide (afQ K k (ndN K e) (rnQ K k d p (q k)) ≠ rnQ K k d p (q k))) = fl at ap
  generalize hR : apR (υ1.1 (68 + (d + 1))) K (ndN K e) (fun i => rnQ K i d p (q i)) (kS K) = R at ap
  let υ2 := s1 υ1 (68 + (d + 1)) R
  have F2 : PF' υ1 υ2 := ⟨fun c hc => s1_ne (by omega), rfl⟩
  have hRQ : RQ (υ2.1 (68 + (d + 1))) (kS K) (fun i => rnQ K i (d + 1) (p * nN K + e) (q i)) := by
    show RQ ((s1 υ1 (68 + (d + 1)) R).1 (68 + (d + 1))) _ _
    rw [s1_eq, ← hR]
    have := apR_RQ (f := υ1.1 (68 + (d + 1))) (K := K) (d := ndN K e) (q := fun i => rnQ K i d p (q i)) (n := kS K) (fun i hi => (hq i hi).2)
    intro i hi
    have h := this i hi
    dsimp only at h ⊢
    rw [hrn] at h
    exact h
  have hw2 : RW (υ2.1 12) (kS K) w := by rw [F2.1 12 (by decide), F1.1 12 (by decide), l1.1 12 (by decide)]; exact hw
  have c66 : ∀ j, υ2.1 66 j = (sI υ 66 d (nI (ndN K e))).1 66 j := fun j => by
    show (s1 υ1 (68 + (d + 1)) R).1 66 j = _
    rw [s1_ne (by omega)]
  refine ⟨υ2, ⟨l1.tr (F1.tr F2), fun j hj => ?_, fun j hj => ?_, ?_, l5, l6⟩, hRQ, fun j hj => ?_, fl, fun hf i hi => ?_, ?_⟩
  · show (s1 υ1 (68 + (d + 1)) R).1 (68 + j) = _
    rw [s1_ne (by omega)]
    show (sI υ 66 d _).1 (68 + j) = _
    rw [sI_ne (by omega)]; exact l2 j hj
  · rw [c66, sI_o (by omega)]; exact l3 j hj
  · obtain ⟨a, c, f⟩ := l4
    have e64 : υ2.1 64 = υ.1 64 := by
      show (s1 υ1 (68 + (d + 1)) R).1 64 = _
      rw [s1_ne (by omega)]
      show (sI υ 66 d _).1 64 = _
      rw [sI_ne (by omega)]
    have e65 : υ2.1 65 = υ.1 65 := by
      show (s1 υ1 (68 + (d + 1)) R).1 65 = _
      rw [s1_ne (by omega)]
      show (sI υ 66 d _).1 65 = _
      rw [sI_ne (by omega)]
    exact ⟨by rw [e64]; exact a, by rw [e64]; exact c, fun j hj => by rw [e65]; exact f j hj⟩
  · rw [c66]
    by_cases hjd : j = d
    · rw [hjd, sI_at, show d + 1 - 1 - d = 0 by omega, Nat.pow_zero, Nat.div_one, hmod]
    · rw [sI_o hjd, l3 j (by omega), hrow j (by omega), show d + 1 - 1 - j = (d - 1 - j) + 1 by omega, Nat.pow_succ, Nat.mul_comm (nN K ^ _), ← Nat.div_div_eq_div_mul, hdiv]
  · have := anyb_f _ (hfl.trans hf) i hi
    rw [← hrn]
    simpa using this
  · unfold F_X5_extend_64
    have r4 : inR (nI d) 4 := inR_t hd (by decide)
    have r5 : inR (nI d) 5 := inR_t (by omega) (by decide)
    have r51 : inR (nI (d + 1)) 5 := inR_t (by omega) (by decide)
    have t0 : (nI d).toNatClampNeg = d := TN_nI (by omega)
    have t1 : (nI (d + 1)).toNatClampNeg = d + 1 := TN_nI (by omega)
    have e1 : nI d + 1 = nI (d + 1) := nI_1 d
    simp only [e1, ck_t r4, ck_t r5, ck_t r51, t0, t1, sI_at]
    have ap' : F_X2_apply_0 (68 + d) (68 + (d + 1)) (nI (ndN K e)) (sI υ 66 d (nI (ndN K e))) = some (bI fl, υ2) := ap
    rw [ap', ob2_s]
    cases fl with
    | false => rw [if_pos (show bI false = 0 from rfl), if_pos rfl]
    | true =>
      rw [if_neg (show ¬ bI true = 0 by decide), if_neg (show ¬ (true = false) by decide)]
      by_cases h0 : x4 = 0
      · rw [if_pos h0, if_pos h0]
      · rw [if_neg h0, if_neg h0]
        have hsd : d + 1 = s := hx.resolve_left h0
        subst hsd
        rw [ck_t r51, t1, rightCountI (F2.sc hS1) hK hw2 hRQ, ob_s]
        rfl
theorem extI {K : CS} {w : Nat → Nat} {q : Nat → QD} {s : Nat} (hK : okK K) (hs : s ≤ 4) : ∀ (r d p k : Nat) (τ : gS) (b : B3), d + (r + 1) = s → r + 1 < k → p < nN K ^ d → SC 10 τ K → RW (τ.1 12) (kS K) w → RQ (τ.1 (68 + d)) (kS K) (fun i => rnQ K i d p (q i)) → JP K b τ → b.1 ≤ 8 → (∀ c, c < nN K ^ (s - 1) → rgN K w q (s - 1) c ≤ b.1) → (∀ j, j < d → τ.1 66 j = nI (ndN K (p / nN K ^ (d - 1 - j) % nN K))) →
    ∃ τ', F_X5_extend k (nI d) (nI s) τ = some τ' ∧ LSp K τ d b (fB (rgN K w q s) s (nN K ^ (r + 1)) (p * nN K ^ (r + 1)) b) τ' := by
  have h8 : kS K ≤ 8 := hK.1
  have h4 : kD K ≤ 4 := hK.2.1
  have h3 : kT K ≤ 3 := hK.2.2.1
  have hn9 : nN K ≤ 9 := by unfold nN; omega
  have hN := nN_pos K
  have hrg8 : ∀ s c, rgN K w q s c ≤ 8 := fun s c => Nat.le_trans (rcN_le h8 _) h8
  intro r
  induction r with
  | zero =>
    intro d p k τ b hd hk hp hS hw hq hJ hb hdom hrow
    obtain ⟨k, rfl⟩ : ∃ z, k = z + 1 := ⟨k - 1, by omega⟩
    have hsd : s = d + 1 := by omega
    subst hsd
    rw [F_X5_extend, F_X5_extend_0, if_pos (show nI d < (4 : Int32) from nI_lt (b := 4) (by omega) (by decide)), show nI d + 1 = nI (d + 1) from nI_1 d, if_pos rfl, F_X5_extend_18]
    have body : ∀ (e f : Nat) (υ : gS) (b' : B3), e < nN K → LSp K τ d b b' υ → ∃ υ', F_X5_extend_23 (F_X5_extend k) (f + 1) (nI d) (nI (d + 1)) 1 (nI e) υ = F_X5_extend_23 (F_X5_extend k) f (nI d) (nI (d + 1)) 1 (nI (e + 1)) υ' ∧ LSp K τ d b (fB (rgN K w q (d + 1)) (d + 1) (nN K ^ 0) ((p * nN K + e) * nN K ^ 0) b') υ' := by
      intro e f υ b' he hL
      have hmod : (p * nN K + e) % nN K = e := by rw [Nat.mul_comm, Nat.mul_add_mod, Nat.mod_eq_of_lt he]
      have hdiv : (p * nN K + e) / nN K = p := by rw [Nat.mul_comm, Nat.mul_add_div hN, Nat.div_eq_of_lt he, Nat.add_zero]
      rw [Nat.pow_zero, Nat.mul_one]
      have hSυ := hL.1.sc hS
      rw [F_X5_extend_23, dcI hSυ, if_neg (nI_ge he (by omega)), nthI hSυ hK he, ck_t (inR_t (by omega) (by decide)), bd_e, if_neg (by decide), ck_t (inR_t (by omega) (by decide))]
      have t0 : (nI d).toNatClampNeg = d := TN_nI (by omega)
      simp only [t0, sI_at, waxO (K := K) (ndN_lt hK he)]
      have stay : ∀ υ2, LSp K τ d b b' υ2 → rgN K w q (d + 1) (p * nN K + e) ≤ b'.1 → ∃ υ', F_X5_extend_126 (F_X5_extend k) (F_X5_extend_23 (F_X5_extend k) f) (nI d) (nI (d + 1)) 1 (nI e) υ2 = F_X5_extend_23 (F_X5_extend k) f (nI d) (nI (d + 1)) 1 (nI (e + 1)) υ' ∧ LSp K τ d b (fB (rgN K w q (d + 1)) (d + 1) 1 (p * nN K + e) b') υ' := by
        intro υ2 h2 hle
        refine ⟨υ2, ?_, ?_⟩
        · rw [F_X5_extend_126, bd_e, show nI e + 1 = nI (e + 1) from nI_1 e]
        · rw [fB_id _ _ _ _ _ (fun x hx => by rw [show x = 0 by omega, Nat.add_zero]; exact hle)]; exact h2
      have dom : ∀ b'' : B3, b.1 ≤ b''.1 → (∀ i, i < kS K → hueQ (rnQ K i (d + 1) (p * nN K + e) (q i)) = hueQ (rnQ K i d p (q i))) → rgN K w q (d + 1) (p * nN K + e) ≤ b''.1 := by
        intro b'' hbb hh
        have : rgN K w q (d + 1) (p * nN K + e) = rgN K w q d p := rcN_congr (fun i hi => by rw [hh i hi])
        rw [this]
        have := hdom p hp
        rw [Nat.add_sub_cancel] at this
        omega
      by_cases hwx : 10 ≤ ndN K e ∧ ndN K e ≤ 20
      · rw [if_bP, if_pos hwx]
        have hL1 : LSp K τ d b b' (sI υ 66 d (nI (ndN K e))) := by
          obtain ⟨l1, l2, l3, ⟨a1, a2, a3⟩, l5, l6⟩ := hL
          refine ⟨l1.tr ⟨fun c hc => sI_ne (by omega), rfl⟩, fun j hj => by rw [sI_ne (by omega)]; exact l2 j hj, fun j hj => by rw [sI_o (by omega)]; exact l3 j hj, ⟨by rw [sI_ne (by decide)]; exact a1, by rw [sI_ne (by decide)]; exact a2, fun j hj => by rw [sI_ne (by decide)]; exact a3 j hj⟩, l5, l6⟩
        refine stay _ hL1 (dom b' hL.2.2.2.2.2 (fun i hi => ?_))
        show hueQ (afQ K i (ndN K ((p * nN K + e) % nN K)) (rnQ K i d ((p * nN K + e) / nN K) (q i))) = _
        rw [hmod, hdiv]; exact hue_wax hwx
      · rw [if_bP, if_neg hwx]
        obtain ⟨υ2, m1, m2, m3, fl, m4, m5⟩ := ext64 (x4 := 1) (rc := F_X5_extend k) (g23 := F_X5_extend_23 (F_X5_extend k) f) (s := d + 1) hS hK (by omega) he hL hq hw (Or.inr rfl) hrow
        rw [m5]
        by_cases hfl : fl = false
        · rw [if_pos hfl]
          exact stay υ2 m1 (dom b' hL.2.2.2.2.2 (fun i hi => by rw [m4 hfl i hi]))
        · rw [if_neg hfl, if_neg (by decide)]
          obtain ⟨n1, n2, n3, n4, n5, n6⟩ := m1
          have := hrg8 (d + 1) (p * nN K + e)
          obtain ⟨υ3, j1, j2, j3, j4⟩ := judgeI (s := d + 1) (c := p * nN K + e) (r := rgN K w q (d + 1) (p * nN K + e)) n4 (by omega) (by omega) (by omega) m3
          rw [j1, ob_s, F_X5_extend_126, bd_e, show nI e + 1 = nI (e + 1) from nI_1 e]
          have ub := upB_ge (rgN K w q (d + 1) (p * nN K + e)) (d + 1) (p * nN K + e) b'
          refine ⟨υ3, rfl, n1.tr ⟨fun c hc => j3 c (by omega) (by omega), j4⟩, fun j hj => by rw [j3 _ (by omega) (by omega)]; exact n2 j hj, fun j hj => by rw [j3 _ (by decide) (by decide)]; exact n3 j hj, j2, ?_, Nat.le_trans n6 ub.1⟩
          show (upB _ _ _ b').1 ≤ 8
          unfold upB; split
          · exact this
          · exact n5
    obtain ⟨υ', r1, r2⟩ := ext23 (r := 0) hS hK body (nN K) 0 fu τ b (by omega) (by unfold fu; omega) ⟨PF'.rf τ, fun _ _ => rfl, fun _ _ => rfl, hJ, hb, Nat.le_refl _⟩
    refine ⟨υ', r1, ?_⟩
    rw [Nat.pow_zero, Nat.mul_one, Nat.mul_one, Nat.add_zero] at r2
    rw [Nat.zero_add, Nat.pow_one]
    exact r2
  | succ r ih =>
    intro d p k τ b hd hk hp hS hw hq hJ hb hdom hrow
    obtain ⟨k, rfl⟩ : ∃ z, k = z + 1 := ⟨k - 1, by omega⟩
    rw [F_X5_extend, F_X5_extend_0, if_pos (show nI d < (4 : Int32) from nI_lt (b := 4) (by omega) (by decide)), show nI d + 1 = nI (d + 1) from nI_1 d, if_nI_eq (by omega) (by omega), if_neg (by omega), F_X5_extend_18]
    have body : ∀ (e f : Nat) (υ : gS) (b' : B3), e < nN K → LSp K τ d b b' υ → ∃ υ', F_X5_extend_23 (F_X5_extend k) (f + 1) (nI d) (nI s) 0 (nI e) υ = F_X5_extend_23 (F_X5_extend k) f (nI d) (nI s) 0 (nI (e + 1)) υ' ∧ LSp K τ d b (fB (rgN K w q s) s (nN K ^ (r + 1)) ((p * nN K + e) * nN K ^ (r + 1)) b') υ' := by
      intro e f υ b' he hL
      have hSυ := hL.1.sc hS
      rw [F_X5_extend_23, dcI hSυ, if_neg (nI_ge he (by omega)), nthI hSυ hK he, ck_t (inR_t (by omega) (by decide)), bd_e, if_pos rfl]
      have t0 : (nI d).toNatClampNeg = d := TN_nI (by omega)
      simp only [t0]
      obtain ⟨υ2, m1, m2, m3, fl, m4, m5⟩ := ext64 (x4 := 0) (rc := F_X5_extend k) (g23 := F_X5_extend_23 (F_X5_extend k) f) (s := s) hS hK (by omega) he hL hq hw (Or.inl rfl) hrow
      rw [m5]
      have hp' : p * nN K + e < nN K ^ (d + 1) := by
        rw [Nat.pow_succ]
        calc p * nN K + e < p * nN K + nN K := by omega
          _ = (p + 1) * nN K := by rw [Nat.succ_mul]
          _ ≤ nN K ^ d * nN K := Nat.mul_le_mul_right _ hp
      by_cases hfl : fl = false
      · rw [if_pos hfl]
        refine ⟨υ2, by rw [F_X5_extend_126, bd_e, show nI e + 1 = nI (e + 1) from nI_1 e], ?_⟩
        rw [fB_id _ _ _ _ _ (fun x hx => ?_)]
        · exact m1
        · have e1 : rgN K w q s ((p * nN K + e) * nN K ^ (r + 1) + x) = rgN K w q (s - 1) (p * nN K ^ (r + 1) + x) := by
            unfold rgN
            refine rcN_congr (fun i hi => ?_)
            rw [show s = (d + 1) + (r + 1) by omega, rnQ_app K i (d + 1) (p * nN K + e) (q i) (r + 1) x hx, m4 hfl i hi, show d + 1 + (r + 1) - 1 = d + (r + 1) by omega, rnQ_app K i d p (q i) (r + 1) x hx]
          rw [e1]
          have hlt : p * nN K ^ (r + 1) + x < nN K ^ (s - 1) := by
            rw [show s - 1 = d + (r + 1) by omega, Nat.pow_add (nN K) d (r + 1)]
            calc p * nN K ^ (r + 1) + x < p * nN K ^ (r + 1) + nN K ^ (r + 1) := by omega
              _ = (p + 1) * nN K ^ (r + 1) := by rw [Nat.succ_mul]
              _ ≤ nN K ^ d * nN K ^ (r + 1) := Nat.mul_le_mul_right _ hp
          have := hdom _ hlt
          have := hL.2.2.2.2.2
          omega
      · rw [if_neg hfl, if_pos rfl]
        obtain ⟨n1, n2, n3, n4, n5, n6⟩ := m1
        obtain ⟨υ3, i1, j1, j2, j3, j4, j5, j6⟩ := ih (d + 1) (p * nN K + e) k υ2 b' (by omega) (by omega) hp' (n1.sc hS) (by rw [n1.1 12 (by decide)]; exact hw) m2 n4 n5 (fun c hc => Nat.le_trans (hdom c hc) n6) m3
        rw [i1, ob_s, F_X5_extend_126, bd_e, show nI e + 1 = nI (e + 1) from nI_1 e]
        refine ⟨υ3, rfl, n1.tr j1, fun j hj => by rw [j2 j (by omega)]; exact n2 j hj, fun j hj => by rw [j3 j (by omega)]; exact n3 j hj, j4, j5, Nat.le_trans n6 j6⟩
    obtain ⟨υ', r1, r2⟩ := ext23 (r := r + 1) hS hK body (nN K) 0 fu τ b (by omega) (by unfold fu; omega) ⟨PF'.rf τ, fun _ _ => rfl, fun _ _ => rfl, hJ, hb, Nat.le_refl _⟩
    refine ⟨υ', r1, ?_⟩
    rw [show (p * nN K + 0) * nN K ^ (r + 1) = p * nN K ^ (r + 1 + 1) by rw [Nat.add_zero, Nat.mul_assoc, ← Nat.pow_succ'], ← Nat.pow_succ'] at r2
    exact r2
