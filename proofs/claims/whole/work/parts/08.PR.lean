/-! PURE R: round: the class -/
def mxN (U : Nat → Nat) : Nat → Nat
  | 0 => 0
  | i + 1 => max (mxN U i) (U i)
def lcN (L : Nat → Nat) : Nat → Nat
  | 0 => 1
  | i + 1 => Nat.lcm (lcN L i) (L i)
theorem lcN_dvd {L : Nat → Nat} {m : Nat} : ∀ i, (∀ j, j < i → L j ∣ m) → lcN L i ∣ m
  | 0, _ => Nat.one_dvd _
  | i + 1, h => Nat.lcm_dvd (lcN_dvd i (fun j hj => h j (by omega))) (h i (by omega))
theorem mxN_le {U : Nat → Nat} {m : Nat} : ∀ i, (∀ j, j < i → U j ≤ m) → mxN U i ≤ m
  | 0, _ => Nat.zero_le _
  | i + 1, h => Nat.max_le.mpr ⟨mxN_le i (fun j hj => h j (by omega)), h i (by omega)⟩
def xs (K : CS) (i n : Nat) (D : Nat → Nat) (q : QD) (t : Nat) : QD := itQ (rwQ K i D n) t q
theorem xs_ok {K : CS} {i n : Nat} {D : Nat → Nat} {q : QD} (h : okQ q) (t : Nat) : okQ (xs K i n D q t) := itQ_ok (fun q h => rwQ_ok h n) h t
theorem xs_s (K : CS) (i n : Nat) (D : Nat → Nat) (q : QD) (t : Nat) : xs K i n D q (t + 1) = rwQ K i D n (xs K i n D q t) := rfl
theorem lapL {σ : gS} {K : CS} {i n : Nat} {D : Nat → Nat} {q : QD} {u l : Nat} (hq : okQ q) (hrow : ∀ Q, okQ Q → F_X2_afterRow_0 81 (nI i) (nI (cd Q)) (nI n) σ = some (nI (cd (rwQ K i D n Q)))) (hR : RD (xs K i n D q) u l) (hul : u + l ≤ 2533) :
    ∀ (m k st f : Nat), k ≤ 12 → 2 ^ k - 1 + st + m = 8192 → m < f → 1 ≤ st → st ≤ 2 ^ k → (∀ s, 1 ≤ s → s < st → xs K i n D q (2 ^ k - 1 + s) ≠ xs K i n D q (2 ^ k - 1)) →
      F_X7_lapOf_28 81 f (nI i) (nI n) (nI (cd (xs K i n D q (2 ^ k - 1)))) (nI (cd (xs K i n D q (2 ^ k - 1 + st)))) (nI st) (nI (2 ^ k)) (nI (2 ^ k - 1 + st - 1)) σ = some (nI l) := by
  have hx : ∀ t, xs K i n D q (t + 1) = rwQ K i D n (xs K i n D q t) := fun t => rfl
  have hl := hR.1
  intro m
  induction m with
  | zero =>
    intro k st f hk hp hf h1 h2 hne
    have : 2 ^ k ≤ 4096 := Nat.pow_le_pow_right (n := 2) (by decide) hk
    omega
  | succ m ih =>
    intro k st f hk hp hf h1 h2 hne
    obtain ⟨f, rfl⟩ : ∃ z, f = z + 1 := ⟨f - 1, by omega⟩
    have hk4 : 2 ^ k ≤ 4096 := Nat.pow_le_pow_right (n := 2) (by decide) hk
    have hk1 : 1 ≤ 2 ^ k := Nat.one_le_two_pow
    have o1 := xs_ok (K := K) (i := i) (n := n) (D := D) hq (2 ^ k - 1)
    have o2 := xs_ok (K := K) (i := i) (n := n) (D := D) hq (2 ^ k - 1 + st)
    have c1 := cd_lt o1
    have c2 := cd_lt o2
    rw [F_X7_lapOf_28, if_nI_eq (by omega) (by omega)]
    by_cases he : cd (xs K i n D q (2 ^ k - 1 + st)) = cd (xs K i n D q (2 ^ k - 1))
    · rw [if_pos he]
      have e := cd_inj o2 o1 he
      obtain ⟨a1, a2⟩ := RD_eq hx hR (a := 2 ^ k - 1) (b := 2 ^ k - 1 + st) (by omega) e.symm
      rw [Nat.add_sub_cancel_left] at a2
      have hle : l ≤ st := Nat.le_of_dvd (by omega) a2
      have : l = st := by
        by_cases q' : l = st
        · exact q'
        · exact absurd (RD_in hx hR a1) (hne l hl (by omega))
      rw [this]
    · have hne' : xs K i n D q (2 ^ k - 1 + st) ≠ xs K i n D q (2 ^ k - 1) := fun e => he (by rw [e])
      rw [if_neg he, if_neg (show ¬ (100000 : Int32) ≤ nI (2 ^ k - 1 + st - 1) from nI_ge (b := 100000) (by omega) (by omega)), if_nI_eq (by omega) (by omega)]
      by_cases hs : st = 2 ^ k
      · have hk12 : k < 12 := by
          by_cases q' : k = 12
          · exfalso
            subst q'
            have : (2 : Nat) ^ 12 = 4096 := by decide
            refine absurd (RD_in hx hR (a := 2 ^ 12 - 1) (by omega)) (hne l hl (by omega))
          · omega
        have hkk : 2 ^ (k + 1) = 2 ^ k * 2 := Nat.pow_succ 2 k
        rw [if_pos hs, L2, pk_mul, bd_e, F_X7_lapOf_62, hrow _ o2, ob_s, bd_e, bd_e, ← hkk]
        have h := ih (k + 1) 1 f (by omega) (by omega) (by omega) (by omega) (by omega) (fun s h1 h2 => by omega)
        rw [show 2 ^ k - 1 + st = 2 ^ (k + 1) - 1 by omega, show (0 : Int32) + 1 = nI 1 by decide, show nI (2 ^ (k + 1) - 1 - 1) + 1 = nI (2 ^ (k + 1) - 1 - 1 + 1) from nI_1 _]
        rw [show 2 ^ (k + 1) - 1 + 1 - 1 = 2 ^ (k + 1) - 1 - 1 + 1 by omega] at h
        exact h
      · rw [if_neg hs, F_X7_lapOf_62, hrow _ o2, ob_s, bd_e, bd_e, show nI st + 1 = nI (st + 1) from nI_1 st, show nI (2 ^ k - 1 + st - 1) + 1 = nI (2 ^ k - 1 + st - 1 + 1) from nI_1 _]
        have h := ih k (st + 1) f hk (by omega) (by omega) (by omega) (by omega) (fun s h1 h2 => by
          by_cases q' : s = st
          · rw [q']; exact hne'
          · exact hne s h1 (by omega))
        rw [show 2 ^ k - 1 + (st + 1) - 1 = 2 ^ k - 1 + st - 1 + 1 by omega] at h
        exact h
theorem lapI {σ : gS} {K : CS} {i n : Nat} {D : Nat → Nat} {q : QD} {u l : Nat} (hi : i < 8) (hq : okQ q) (hqi : σ.1 13 i = nI (cd q)) (hrow : ∀ Q, okQ Q → F_X2_afterRow_0 81 (nI i) (nI (cd Q)) (nI n) σ = some (nI (cd (rwQ K i D n Q)))) (hR : RD (xs K i n D q) u l) (hul : u + l ≤ 2533) : F_X7_lapOf_0 81 (nI i) (nI n) σ = some (nI l) := by
  unfold F_X7_lapOf_0
  rw [ck_t (inR_t hi (by decide)), TN_nI (by omega), hqi, bd_e, hrow _ hq, ob_s]
  exact lapL hq hrow hR hul 8191 0 1 fu (by decide) (by decide) (by unfold fu; omega) (by decide) (by decide) (fun s h1 h2 => by omega)
theorem leadI {σ : gS} {K : CS} {i n : Nat} {D : Nat → Nat} {q : QD} {u l : Nat} (hi : i < 8) (hq : okQ q) (hqi : σ.1 13 i = nI (cd q)) (hrow : ∀ Q, okQ Q → F_X2_afterRow_0 81 (nI i) (nI (cd Q)) (nI n) σ = some (nI (cd (rwQ K i D n Q)))) (hR : RD (xs K i n D q) u l) (hul : u + l ≤ 2533) : F_X7_leadOf_0 81 (nI i) (nI n) (nI l) σ = some (nI u) := by
  have hx : ∀ t, xs K i n D q (t + 1) = rwQ K i D n (xs K i n D q t) := fun t => rfl
  have k45 : ∀ (m t f : Nat), t + m = u → m < f → F_X7_leadOf_45 81 f (nI i) (nI n) (nI (cd (xs K i n D q t))) (nI (cd (xs K i n D q (l + t)))) (nI t) (nI t) σ = some (nI u) := by
    intro m
    induction m with
    | zero =>
      intro t f ht hf
      obtain ⟨f, rfl⟩ : ∃ z, f = z + 1 := ⟨f - 1, by omega⟩
      rw [F_X7_leadOf_45, if_pos (by rw [show l + t = u + l by omega, hR.2.1, show t = u by omega]), show t = u by omega]
    | succ m ih =>
      intro t f ht hf
      obtain ⟨f, rfl⟩ : ∃ z, f = z + 1 := ⟨f - 1, by omega⟩
      have o1 := xs_ok (K := K) (i := i) (n := n) (D := D) hq t
      have o2 := xs_ok (K := K) (i := i) (n := n) (D := D) hq (l + t)
      have c1 := cd_lt o1
      have c2 := cd_lt o2
      have hne : ¬ cd (xs K i n D q (l + t)) = cd (xs K i n D q t) := fun e => by
        have := (RD_eq hx hR (a := t) (b := l + t) (by have := hR.1; omega) (cd_inj o1 o2 e.symm)).1
        omega
      rw [F_X7_leadOf_45, if_nI_eq (by omega) (by omega), if_neg hne, if_neg (show ¬ (100000 : Int32) ≤ nI t from nI_ge (b := 100000) (by omega) (by omega)), hrow _ o2, ob_s, hrow _ o1, ob_s, bd_e, bd_e, show nI t + 1 = nI (t + 1) from nI_1 t]
      exact ih (t + 1) f (by omega) (by omega)
  have k15 : ∀ (m t f : Nat), t + m = l → m < f → F_X7_leadOf_15 81 f (nI i) (nI n) (nI l) (nI (cd q)) (nI (cd (xs K i n D q t))) (nI t) σ = some (nI u) := by
    intro m
    induction m with
    | zero =>
      intro t f ht hf
      obtain ⟨f, rfl⟩ : ∃ z, f = z + 1 := ⟨f - 1, by omega⟩
      rw [F_X7_leadOf_15, if_pos (nI_le (by omega) (by omega))]
      have := k45 u 0 fu (by omega) (by unfold fu; omega)
      rw [Nat.add_zero] at this
      rw [show t = l by omega]
      exact this
    | succ m ih =>
      intro t f ht hf
      obtain ⟨f, rfl⟩ : ∃ z, f = z + 1 := ⟨f - 1, by omega⟩
      have o1 := xs_ok (K := K) (i := i) (n := n) (D := D) hq t
      rw [F_X7_leadOf_15, if_neg (nI_ge (by omega) (by omega)), hrow _ o1, ob_s, bd_e, show nI t + 1 = nI (t + 1) from nI_1 t]
      exact ih (t + 1) f (by omega) (by omega)
  unfold F_X7_leadOf_0
  rw [ck_t (inR_t hi (by decide)), TN_nI (by omega), hqi, bd_e]
  exact k15 l 0 fu (by omega) (by unfold fu; omega)
theorem measI {σ : gS} {K : CS} {n : Nat} {D : Nat → Nat} {q : Nat → QD} {U L : Nat → Nat} (hK : okK K) (hn : n ≤ 20) (hS : SC 10 σ K) (hq : RQ (σ.1 13) (kS K) q) (hD : ∀ d, d < n → σ.1 81 d = nI (D d) ∧ okD K (D d)) (hUL : ∀ i, i < kS K → RD (xs K i n D (q i)) (U i) (L i) ∧ U i + L i ≤ 2533 ∧ L i ∣ 2520) :
    ∃ τ, F_X7_measure_0 81 (nI n) σ = some τ ∧ τ.1 80 0 = nI (mxN U (kS K)) ∧ τ.1 80 1 = nI (lcN L (kS K)) ∧ (∀ c, c ≠ 80 → τ.1 c = σ.1 c) ∧ τ.2 = σ.2 := by
  have h8 : kS K ≤ 8 := hK.1
  have key : ∀ (m i f : Nat) (τ : gS), i + m = kS K → m < f → τ.1 80 0 = nI (mxN U i) → τ.1 80 1 = nI (lcN L i) → (∀ c, c ≠ 80 → τ.1 c = σ.1 c) → τ.2 = σ.2 → ∃ τ', F_X7_measure_13 81 f (nI n) (nI i) τ = some τ' ∧ τ'.1 80 0 = nI (mxN U (kS K)) ∧ τ'.1 80 1 = nI (lcN L (kS K)) ∧ (∀ c, c ≠ 80 → τ'.1 c = σ.1 c) ∧ τ'.2 = σ.2 := by
    intro m
    induction m with
    | zero =>
      intro i f τ hi hf h0 h1 hF hF2
      obtain ⟨f, rfl⟩ : ∃ z, f = z + 1 := ⟨f - 1, by omega⟩
      have hik : i = kS K := by omega
      subst hik
      refine ⟨τ, ?_, h0, h1, hF, hF2⟩
      rw [F_X7_measure_13, hF 10 (by decide), hS.1, if_pos (nI_le (by omega) (by omega))]
    | succ m ih =>
      intro i f τ hi hf h0 h1 hF hF2
      obtain ⟨f, rfl⟩ : ∃ z, f = z + 1 := ⟨f - 1, by omega⟩
      have hik : i < kS K := by omega
      obtain ⟨hR, hul, hdv⟩ := hUL i hik
      have hSτ : SC 10 τ K := hS.keep (hF _ (by decide)) (hF _ (by decide)) (hF _ (by decide)) (hF _ (by decide))
      obtain ⟨qe, qo⟩ := hq i hik
      have hrow : ∀ Q, okQ Q → F_X2_afterRow_0 81 (nI i) (nI (cd Q)) (nI n) τ = some (nI (cd (rwQ K i D n Q))) := fun Q hQ => rowI hSτ hK hik hQ hn (fun d hd => by rw [hF 81 (by decide)]; exact hD d hd)
      have hqi : τ.1 13 i = nI (cd (q i)) := by rw [hF 13 (by decide)]; exact qe
      have hm : mxN U i ≤ 2533 := mxN_le i (fun j hj => by have := (hUL j (by omega)).2.1; omega)
      have hlc : lcN L i ∣ 2520 := lcN_dvd i (fun j hj => (hUL j (by omega)).2.2)
      have hl0 : 0 < lcN L i := Nat.pos_of_dvd_of_pos hlc (by decide)
      have hl1 : lcN L i ≤ 2520 := Nat.le_of_dvd (by decide) hlc
      have hLp := hR.1
      have hg : 0 < Nat.gcd (L i) (lcN L i) := Nat.gcd_pos_of_pos_left _ hLp
      have hgl : Nat.gcd (L i) (lcN L i) ≤ L i := Nat.gcd_le_left _ hLp
      have hlcm : lcN L i / Nat.gcd (L i) (lcN L i) * L i = lcN L (i + 1) := by
        show _ = Nat.lcm (lcN L i) (L i)
        unfold Nat.lcm
        rw [Nat.gcd_comm (lcN L i), Nat.div_mul_right_comm (Nat.gcd_dvd_right _ _)]
      rw [F_X7_measure_13, hSτ.1, if_neg (nI_ge (by omega) (by omega)), lapI (by omega) qo hqi hrow hR hul, ob_s, leadI (by omega) qo hqi hrow hR hul, ob_s, h0, mx_nI (by omega) (by omega), bd_e, sI_o (by decide), h1, gcdI0 (by omega) (by omega), ob_s, show max (Nat.gcd (L i) (lcN L i)) 1 = Nat.gcd (L i) (lcN L i) by omega, ck_t (nI_ne0 (by omega) (by omega)), pk_div (by omega) hg (by omega), pk_mul, hlcm, bd_e, bd_e, show nI i + 1 = nI (i + 1) from nI_1 i]
      refine ih (i + 1) f _ (by omega) (by omega) ?_ (sI_at _ _ _ _) (fun c hc => ?_) hF2
      · rw [sI_o (by decide), sI_at]; rfl
      · rw [sI_ne hc, sI_ne hc]; exact hF c hc
  unfold F_X7_measure_0
  rw [bd_e, bd_e]
  refine key (kS K) 0 fu _ (by omega) (by unfold fu; omega) ?_ (sI_at _ _ _ _) (fun c hc => ?_) rfl
  · rw [sI_o (by decide), sI_at]; rfl
  · rw [sI_ne hc, sI_ne hc]
