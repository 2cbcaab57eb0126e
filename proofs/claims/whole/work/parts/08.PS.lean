/-! PURE S: round: the model -/
def coN (q : QD) : Nat := 4 * (100 * q.1 + 10 * q.2.1 + q.2.2.1) + q.2.2.2
theorem coN_lt {q : QD} (h : okQ q) : coN q < 4000 := by unfold coN; unfold okQ at h; omega
theorem coN_inj {a b : QD} (ha : okQ a) (hb : okQ b) (h : coN a = coN b) : a = b := by
  obtain ⟨a1, a2, a3, a4⟩ := a
  obtain ⟨b1, b2, b3, b4⟩ := b
  unfold okQ at ha hb
  unfold coN at h
  simp only at *
  have e1 : a1 = b1 := by omega
  have e2 : a2 = b2 := by omega
  have e3 : a3 = b3 := by omega
  have e4 : a4 = b4 := by omega
  rw [e1, e2, e3, e4]
theorem codeM {σ : gS} {i : Nat} {g : Nat → Int32} {Q : QD} (hi : i < 8) (h : σ.1 87 = pq g i Q) : F_X12_codeOf_0 (nI i) σ = some (nI (coN Q)) := by
  unfold F_X12_codeOf_0
  obtain ⟨p1, p2, p3, p4⟩ := pq_at g hi Q
  rw [ix30, bd_e, show nI (3 * i) + 1 = nI (3 * i + 1) from nI_1 _, show nI (3 * i) + 2 = nI (3 * i + 2) from nI_add _ 2, L24, nI_add, ck_t (inR_t (by omega) (by decide)), ck_t (inR_t (by omega) (by decide)), ck_t (inR_t (by omega) (by decide)), ck_t (inR_t (by omega) (by decide)), TN_nI (by omega), TN_nI (by omega), TN_nI (by omega), TN_nI (by omega), h, p1, p2, p3, p4, show (100 : Int32) = nI 100 from rfl, L10, L4, pk_mul, pk_mul, nI_add, nI_add, pk_mul, nI_add]
  rfl
/-- one pass of the row -/
theorem gr59 {σ : gS} {K : CS} {i s j n : Nat} {D : Nat → Nat} {g : Nat → Int32} {Q : QD} {x5 : Int32} (G : Int32 → Int32 → Int32 → Int32 → Int32 → gS → Option gS) (hK : okK K) (hM : SM (σ.1 83) K) (hi : i < kS K) (hs : s < 4) (hj : j + n ≤ 24) (hD : ∀ d, d < n → (σ.2 94 (24 * s + j + d)).toInt32 = nI (D d) ∧ okD K (D d)) (hQ : okQ Q) : ∀ (m k f : Nat), k + m = n → m < f →
    F_X12_goesRound_59 G f (nI i) (nI s) (nI j) (nI n) x5 (nI k) (s1 σ 87 (pq g i (rwQ K i D k Q))) = G (nI i) (nI s) (nI j) (nI n) x5 (s1 σ 87 (pq g i (rwQ K i D n Q))) := by
  intro m
  induction m with
  | zero =>
    intro k f hk hf
    obtain ⟨f, rfl⟩ : ∃ z, f = z + 1 := ⟨f - 1, by omega⟩
    rw [F_X12_goesRound_59, if_pos (nI_le (by omega) (by omega)), show k = n by omega]
  | succ m ih =>
    intro k f hk hf
    obtain ⟨f, rfl⟩ : ∃ z, f = z + 1 := ⟨f - 1, by omega⟩
    obtain ⟨d1, d2⟩ := hD k (by omega)
    rw [F_X12_goesRound_59, if_neg (nI_ge (by omega) (by omega)), L24, pk_mul, nI_add, nI_add, ck_t (inR_t (by omega) (by decide)), TN_nI (by omega), s1_2, d1, doesPq hM hK (by decide) hi d2 (rwQ_ok hQ k), ob_s, bd_e, show nI k + 1 = nI (k + 1) from nI_1 k]
    exact ih (k + 1) f (by omega) (by omega)
/-- round and round, until a state comes again -/
theorem gr28 {σ : gS} {K : CS} {i s j n : Nat} {D : Nat → Nat} {g : Nat → Int32} {q : QD} {u l : Nat} (hK : okK K) (hM : SM (σ.1 83) K) (hi : i < kS K) (hs : s < 4) (hj : j + n ≤ 24) (hn : n ≤ 20) (hD : ∀ d, d < n → (σ.2 94 (24 * s + j + d)).toInt32 = nI (D d) ∧ okD K (D d)) (hq : okQ q) (hR : RD (xs K i n D q) u l) (hul : u + l ≤ 2533) :
    ∀ (m t f : Nat) (h : Nat → Int32), t + m = u + l → m < f → (∀ a, a < t → h (coN (xs K i n D q a)) = nI (a + 1)) → (∀ c, c < 4000 → (∀ a, a < t → coN (xs K i n D q a) ≠ c) → h c = 0) →
      ∃ h', F_X12_goesRound_28 f (nI i) (nI s) (nI j) (nI n) (nI t) (s1 (s1 σ 97 h) 87 (pq g i (xs K i n D q t))) = some (sI (sI (s1 (s1 σ 97 h') 87 (pq g i (xs K i n D q (u + l)))) 82 20 (nI u)) 82 21 (nI l)) := by
  have h8 : kS K ≤ 8 := hK.1
  have hok : ∀ t, okQ (xs K i n D q t) := fun t => xs_ok hq t
  intro m
  induction m with
  | zero =>
    intro t f h ht hf h1 h2
    obtain ⟨f, rfl⟩ : ∃ z, f = z + 1 := ⟨f - 1, by omega⟩
    have htu : t = u + l := by omega
    subst htu
    have hl := hR.1
    have hc : F_X12_codeOf_0 (nI i) (s1 (s1 σ 97 h) 87 (pq g i (xs K i n D q (u + l)))) = some (nI (coN (xs K i n D q (u + l)))) := codeM (g := g) (by omega) (s1_eq _ _ _)
    have hlt := coN_lt (hok (u + l))
    have hr : inR (nI (coN (xs K i n D q (u + l)))) 4000 := inR_t hlt (by decide)
    have hv : (s1 (s1 σ 97 h) 87 (pq g i (xs K i n D q (u + l)))).1 97 (coN (xs K i n D q (u + l))) = nI (u + 1) := by
      rw [s1_ne (by decide), s1_eq, hR.2.1]; exact h1 u (by omega)
    have t0 : (nI (coN (xs K i n D q (u + l)))).toNatClampNeg = coN (xs K i n D q (u + l)) := TN_nI (by omega)
    refine ⟨h, ?_⟩
    rw [F_X12_goesRound_28]
    simp only [hc, ob_s, ck_t hr, t0, hv]
    rw [if_neg (nI_ne0 (by omega) (by omega)), bd_e, bd_e, L1, pk_sub (by omega), Nat.add_sub_cancel, sI_at, pk_sub (by omega), Nat.add_sub_cancel_left]
  | succ m ih =>
    intro t f h ht hf h1 h2
    obtain ⟨f, rfl⟩ : ∃ z, f = z + 1 := ⟨f - 1, by omega⟩
    have hc : F_X12_codeOf_0 (nI i) (s1 (s1 σ 97 h) 87 (pq g i (xs K i n D q t))) = some (nI (coN (xs K i n D q t))) := codeM (g := g) (by omega) (s1_eq _ _ _)
    have hlt := coN_lt (hok t)
    have hr : inR (nI (coN (xs K i n D q t))) 4000 := inR_t hlt (by decide)
    have hnew : ∀ a, a < t → coN (xs K i n D q a) ≠ coN (xs K i n D q t) := fun a ha e => hR.2.2 a t ha (by omega) (coN_inj (hok a) (hok t) e)
    have hv : (s1 (s1 σ 97 h) 87 (pq g i (xs K i n D q t))).1 97 (coN (xs K i n D q t)) = 0 := by
      rw [s1_ne (by decide), s1_eq]; exact h2 _ hlt hnew
    have t0 : (nI (coN (xs K i n D q t))).toNatClampNeg = coN (xs K i n D q t) := TN_nI (by omega)
    have e1 : nI t + 1 = nI (t + 1) := nI_1 t
    rw [F_X12_goesRound_28]
    simp only [hc, ob_s, ck_t hr, t0, hv, bd_e, e1]
    rw [if_pos trivial]
    let h' := upd h (coN (xs K i n D q t)) (nI (t + 1))
    have hst : sI (s1 (s1 σ 97 h) 87 (pq g i (xs K i n D q t))) 97 (coN (xs K i n D q t)) (nI (t + 1)) = s1 (s1 σ 97 h') 87 (pq g i (rwQ K i D 0 (xs K i n D q t))) := by
      apply Prod.ext
      · funext c
        show (sI (s1 (s1 σ 97 h) 87 (pq g i (xs K i n D q t))) 97 (coN (xs K i n D q t)) (nI (t + 1))).1 c = (s1 (s1 σ 97 h') 87 (pq g i (xs K i n D q t))).1 c
        by_cases c1 : c = 97
        · subst c1; rw [sI_eq, s1_ne (by decide), s1_eq, s1_ne (by decide), s1_eq]
        · rw [sI_ne c1]
          by_cases c2 : c = 87
          · subst c2; rw [s1_eq, s1_eq]
          · rw [s1_ne c2, s1_ne c1, s1_ne c2, s1_ne c1]
      · rfl
    have hg : F_X12_goesRound_59 (F_X12_goesRound_28 f) fu (nI i) (nI s) (nI j) (nI n) (nI (t + 1)) 0 (s1 (s1 σ 97 h') 87 (pq g i (rwQ K i D 0 (xs K i n D q t)))) = _ := gr59 (σ := s1 σ 97 h') (g := g) (x5 := nI (t + 1)) (F_X12_goesRound_28 f) hK (by rw [s1_ne (by decide)]; exact hM) hi hs hj hD (hok t) n 0 fu (by omega) (by unfold fu; omega)
    rw [hst, hg, ← xs_s]
    refine ih (t + 1) f h' (by omega) (by omega) (fun a ha => ?_) (fun c hc4 hne => ?_)
    · by_cases ea : a = t
      · rw [ea]; exact upd_eq _ _ _
      · rw [show h' (coN (xs K i n D q a)) = h (coN (xs K i n D q a)) from upd_ne (hnew a (by omega))]; exact h1 a (by omega)
    · rw [show h' c = h c from upd_ne (fun e => hne t (by omega) e.symm)]
      exact h2 c hc4 (fun a ha => hne a (by omega))
theorem gr0 {σ : gS} {K : CS} {i s j n : Nat} {D : Nat → Nat} {q : QD} {u l : Nat} (hK : okK K) (hM : SM (σ.1 83) K) (hi : i < kS K) (hs : s < 4) (hj : j + n ≤ 24) (hn : n ≤ 20) (hD : ∀ d, d < n → (σ.2 94 (24 * s + j + d)).toInt32 = nI (D d) ∧ okD K (D d)) (hq : okQ q) (h87 : pq (σ.1 87) i q = σ.1 87) (hR : RD (xs K i n D q) u l) (hul : u + l ≤ 2533) :
    ∃ h' Q, F_X12_goesRound_0 (nI i) (nI s) (nI j) (nI n) σ = some (sI (sI (s1 (s1 σ 97 h') 87 (pq (σ.1 87) i Q)) 82 20 (nI u)) 82 21 (nI l)) := by
  have key : ∀ (m k f : Nat) (h : Nat → Int32), k + m = 4000 → m < f → (∀ c, c < k → h c = 0) → ∃ h' Q, F_X12_goesRound_3 f (nI i) (nI s) (nI j) (nI n) (nI k) (s1 σ 97 h) = some (sI (sI (s1 (s1 σ 97 h') 87 (pq (σ.1 87) i Q)) 82 20 (nI u)) 82 21 (nI l)) := by
    intro m
    induction m with
    | zero =>
      intro k f h hk hf hz
      obtain ⟨f, rfl⟩ : ∃ z, f = z + 1 := ⟨f - 1, by omega⟩
      rw [F_X12_goesRound_3, if_pos (show (4000 : Int32) ≤ nI k from nI_le (a := 4000) (by omega) (by omega))]
      obtain ⟨h', r⟩ := gr28 (σ := σ) (s := s) (j := j) (g := σ.1 87) hK hM hi hs hj hn hD hq hR hul (u + l) 0 fu h (by omega) (by unfold fu; omega) (fun a ha => absurd ha (by omega)) (fun c hc _ => hz c (by omega))
      have e : s1 (s1 σ 97 h) 87 (pq (σ.1 87) i (xs K i n D q 0)) = s1 σ 97 h := by
        show s1 (s1 σ 97 h) 87 (pq (σ.1 87) i q) = _
        rw [h87]
        exact s1_id (s1 σ 97 h) 87
      rw [e] at r
      exact ⟨h', _, r⟩
    | succ m ih =>
      intro k f h hk hf hz
      obtain ⟨f, rfl⟩ : ∃ z, f = z + 1 := ⟨f - 1, by omega⟩
      rw [F_X12_goesRound_3, if_neg (show ¬ (4000 : Int32) ≤ nI k from nI_ge (b := 4000) (by omega) (by omega)), ck_t (inR_t (by omega) (by decide)), TN_nI (by omega), bd_e, bd_e, show nI k + 1 = nI (k + 1) from nI_1 k, sI_s1']
      refine ih (k + 1) f _ (by omega) (by omega) (fun c hc => ?_)
      by_cases e : c = k
      · rw [e, upd_eq]
      · rw [upd_ne e]; exact hz c (by omega)
  have := key 4000 0 fu (σ.1 97) (by omega) (by unfold fu; omega) (fun c hc => absurd hc (by omega))
  rw [s1_id] at this
  exact this
/-- the least common multiple, by adding -/
theorem rn134 {τ : gS} {A l : Nat} {x1 x3 x4 x5 x7 x9 : Int32} (G : Int32 → Int32 → Int32 → Int32 → Int32 → Int32 → Int32 → gS → Option (Int32 × gS)) (hA : 0 < A) (hl : 0 < l) (hl2 : l ≤ 2533) (hA2 : A ≤ 2520) (hlen : τ.1 82 21 = nI l) : ∀ (m k f : Nat), k + m = l / Nat.gcd A l → m < f → 0 < k →
    F_X12_round_134 G f x1 x3 x4 x5 x7 (nI (A * k)) x9 (nI A) τ = bd (x9 + 1) (fun x154 => G x1 x3 x4 x5 x7 (nI (Nat.lcm A l)) x154 τ) := by
  have hg : 0 < Nat.gcd A l := Nat.gcd_pos_of_pos_left _ hA
  have hlc : Nat.lcm A l = A * (l / Nat.gcd A l) := by
    unfold Nat.lcm
    rw [Nat.mul_div_assoc _ (Nat.gcd_dvd_right _ _)]
  have hle : l / Nat.gcd A l ≤ l := Nat.div_le_self _ _
  have bnd : ∀ k, k ≤ l → A * k < 2 ^ 31 := fun k hk => by
    have := Nat.mul_le_mul hA2 (Nat.le_trans hk hl2)
    omega
  intro m
  induction m with
  | zero =>
    intro k f hk hf h0
    obtain ⟨f, rfl⟩ : ∃ z, f = z + 1 := ⟨f - 1, by omega⟩
    have hkk : k = l / Nat.gcd A l := by omega
    have hmod : A * k % l = 0 := by rw [hkk, ← hlc]; exact Nat.mod_eq_zero_of_dvd (Nat.dvd_lcm_right A l)
    rw [F_X12_round_134, hlen, ck_t (nI_ne0 (by omega) (by omega)), pk_rem (bnd k (by omega)) hl (by omega), hmod, if_pos (by decide), hlc, hkk]
  | succ m ih =>
    intro k f hk hf h0
    obtain ⟨f, rfl⟩ : ∃ z, f = z + 1 := ⟨f - 1, by omega⟩
    have hmod : A * k % l ≠ 0 := fun e => by
      have h1 : Nat.lcm A l ∣ A * k := Nat.lcm_dvd (Nat.dvd_mul_right A k) (Nat.dvd_of_mod_eq_zero e)
      rw [hlc] at h1
      have h2 := Nat.le_of_dvd h0 (Nat.dvd_of_mul_dvd_mul_left hA h1)
      omega
    have hml : A * k % l < l := Nat.mod_lt _ hl
    rw [F_X12_round_134, hlen, ck_t (nI_ne0 (by omega) (by omega)), pk_rem (bnd k (by omega)) hl (by omega), if_neg (nI_ne0 (by omega) (by omega)), nI_add, bd_e, ← Nat.mul_succ]
    exact ih (k + 1) f (by omega) (by omega) (by omega)
