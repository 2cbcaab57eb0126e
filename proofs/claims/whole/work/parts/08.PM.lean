/-! PURE M: plan: the rows, the best; the class -/
def rnQ (K : CS) (i : Nat) : Nat → Nat → QD → QD
  | 0, _, q => q
  | s + 1, c, q => afQ K i (ndN K (c % nN K)) (rnQ K i s (c / nN K) q)
theorem nN_pos (K : CS) : 0 < nN K := by unfold nN; omega
theorem rnQ_ok {K : CS} {i : Nat} {q : QD} (h : okQ q) : ∀ s c, okQ (rnQ K i s c q)
  | 0, _ => h
  | s + 1, c => afQ_ok (rnQ_ok h s _)
theorem rnQ_app (K : CS) (i d p : Nat) (q : QD) : ∀ r x, x < nN K ^ r → rnQ K i (d + r) (p * nN K ^ r + x) q = rnQ K i r x (rnQ K i d p q)
  | 0, x, hx => by
    rw [Nat.pow_zero] at hx ⊢
    have : x = 0 := by omega
    subst this
    rw [Nat.mul_one]; rfl
  | r + 1, x, hx => by
    have hN := nN_pos K
    have hd : x / nN K < nN K ^ r := by rw [Nat.pow_succ] at hx; exact Nat.div_lt_of_lt_mul (by rw [Nat.mul_comm]; exact hx)
    have e1 : (p * nN K ^ (r + 1) + x) % nN K = x % nN K := by rw [Nat.pow_succ, ← Nat.mul_assoc, Nat.mul_comm (p * nN K ^ r), Nat.mul_add_mod]
    have e2 : (p * nN K ^ (r + 1) + x) / nN K = p * nN K ^ r + x / nN K := by rw [Nat.pow_succ, ← Nat.mul_assoc, Nat.mul_comm (p * nN K ^ r), Nat.mul_add_div hN]
    show afQ K i (ndN K ((p * nN K ^ (r + 1) + x) % nN K)) (rnQ K i (d + r) ((p * nN K ^ (r + 1) + x) / nN K) q) = _
    rw [e1, e2, rnQ_app K i d p q r _ hd]
    rfl
/-- the right squares of a row; the best -/
def rgN (K : CS) (w : Nat → Nat) (q : Nat → QD) (s c : Nat) : Nat := rcN (kS K) (fun i => decide (hueQ (rnQ K i s c (q i)) = w i))
theorem rcN_congr {n : Nat} {p p' : Nat → Bool} (h : ∀ i, i < n → p i = p' i) : rcN n p = rcN n p' := by unfold rcN; rw [rsN_congr h]
theorem pc_le : ∀ n, n < 9 → ∀ m, m < 256 → m < 2 ^ n → pcN m ≤ n := by decide +kernel
theorem rcN_le {n : Nat} (h : n ≤ 8) (p : Nat → Bool) : rcN n p ≤ n := pc_le n (by omega) _ (rs_256 p h) (rsN_lt n p)
abbrev B3 := Nat × Nat × Nat
def upB (r s c : Nat) (b : B3) : B3 := if b.1 < r then (r, c, s) else b
def fB (g : Nat → Nat) (s : Nat) : Nat → Nat → B3 → B3
  | 0, _, b => b
  | t + 1, c, b => fB g s t (c + 1) (upB (g c) s c b)
theorem fB_app (g : Nat → Nat) (s u : Nat) : ∀ t c b, fB g s (t + u) c b = fB g s u (c + t) (fB g s t c b)
  | 0, c, b => by rw [Nat.zero_add, Nat.add_zero]; rfl
  | t + 1, c, b => by rw [Nat.add_right_comm]; show fB g s (t + u) (c + 1) _ = _; rw [fB_app g s u t, Nat.add_right_comm]; rfl
theorem upB_ge (r s c : Nat) (b : B3) : b.1 ≤ (upB r s c b).1 ∧ r ≤ (upB r s c b).1 := by
  unfold upB; split
  · exact ⟨by show b.1 ≤ r; omega, Nat.le_refl _⟩
  · exact ⟨Nat.le_refl _, by omega⟩
theorem fB_ge (g : Nat → Nat) (s : Nat) : ∀ t c b, b.1 ≤ (fB g s t c b).1 ∧ ∀ x, x < t → g (c + x) ≤ (fB g s t c b).1
  | 0, c, b => ⟨Nat.le_refl _, fun x hx => absurd hx (by omega)⟩
  | t + 1, c, b => by
    obtain ⟨h1, h2⟩ := fB_ge g s t (c + 1) (upB (g c) s c b)
    obtain ⟨u1, u2⟩ := upB_ge (g c) s c b
    refine ⟨Nat.le_trans u1 h1, fun x hx => ?_⟩
    by_cases e : x = 0
    · subst e; exact Nat.le_trans u2 h1
    · have := h2 (x - 1) (by omega)
      rw [show c + 1 + (x - 1) = c + x by omega] at this
      exact this
theorem fB_id (g : Nat → Nat) (s : Nat) : ∀ t c b, (∀ x, x < t → g (c + x) ≤ b.1) → fB g s t c b = b
  | 0, _, _, _ => rfl
  | t + 1, c, b, h => by
    show fB g s t (c + 1) (upB (g c) s c b) = b
    have h0 := h 0 (by omega)
    rw [Nat.add_zero] at h0
    rw [show upB (g c) s c b = b from if_neg (by omega)]
    exact fB_id g s t (c + 1) b (fun x hx => by rw [Nat.add_assoc, Nat.add_comm 1]; exact h (x + 1) (by omega))
theorem fB_le {g : Nat → Nat} {s m : Nat} (hg : ∀ c, g c ≤ m) : ∀ t c b, b.1 ≤ m → (fB g s t c b).1 ≤ m
  | 0, _, _, h => h
  | t + 1, c, b, h => fB_le hg t (c + 1) _ (by unfold upB; split; exact hg c; exact h)
theorem fB_l {g : Nat → Nat} {s : Nat} : ∀ t c b, b.2.2 ≤ s → (fB g s t c b).2.2 ≤ s
  | 0, _, _, h => h
  | t + 1, c, b, h => fB_l t (c + 1) _ (by unfold upB; split; exact Nat.le_refl _; exact h)
theorem fB_c {g : Nat → Nat} {s m : Nat} : ∀ t c b, b.2.1 < m → c + t ≤ m → (fB g s t c b).2.1 < m
  | 0, _, _, h, _ => h
  | t + 1, c, b, h, hc => fB_c t (c + 1) _ (by unfold upB; split; (show c < m; omega); exact h) (by omega)
/-- the class's best -/
def JP (K : CS) (b : B3) (τ : gS) : Prop := τ.1 64 0 = nI b.1 ∧ τ.1 64 1 = nI b.2.2 ∧ ∀ j, j < b.2.2 → τ.1 65 j = nI (ndN K (b.2.1 / nN K ^ (b.2.2 - 1 - j) % nN K))
def PF' (τ τ' : gS) : Prop := (∀ c, c < 64 ∨ 72 < c → τ'.1 c = τ.1 c) ∧ τ'.2 = τ.2
theorem PF'.rf (τ : gS) : PF' τ τ := ⟨fun _ _ => rfl, rfl⟩
theorem PF'.tr {a b c : gS} (h : PF' a b) (g : PF' b c) : PF' a c := ⟨fun x hx => (g.1 x hx).trans (h.1 x hx), g.2.trans h.2⟩
theorem PF'.ag {σ τ : gS} (h : PF' σ τ) : Ag σ τ := ⟨fun c hc => h.1 c (by omega), fun c hc => by rw [h.2], by rw [h.1 4 (by decide)], by rw [h.1 82 (by decide)], by rw [h.1 82 (by decide)], by rw [h.1 82 (by decide)]⟩
theorem PF'.sc {σ τ : gS} {K : CS} (h : PF' σ τ) (hS : SC 10 σ K) : SC 10 τ K := hS.keep (h.1 _ (by decide)) (h.1 _ (by decide)) (h.1 _ (by decide)) (h.1 _ (by decide))
theorem anyb_f {p : Nat → Bool} : ∀ n, anyb n p = false → ∀ i, i < n → p i = false
  | 0, _, i, hi => absurd hi (by omega)
  | n + 1, h, i, hi => by
    unfold anyb at h
    rw [Bool.or_eq_false_iff] at h
    by_cases e : i = n
    · rw [e]; exact h.2
    · exact anyb_f n h.1 i (by omega)
theorem judgeI {K : CS} {τ : gS} {b : B3} {s c r : Nat} (hJ : JP K b τ) (hb : b.1 < 2 ^ 31) (hr : r < 2 ^ 31) (hs : s ≤ 4) (hrow : ∀ j, j < s → τ.1 66 j = nI (ndN K (c / nN K ^ (s - 1 - j) % nN K))) :
    ∃ τ', F_X5_judge_0 (nI r) (nI s) τ = some τ' ∧ JP K (upB r s c b) τ' ∧ (∀ c, c ≠ 64 → c ≠ 65 → τ'.1 c = τ.1 c) ∧ τ'.2 = τ.2 := by
  obtain ⟨j1, j2, j3⟩ := hJ
  unfold F_X5_judge_0
  rw [j1, if_nI_lt hb hr]
  unfold upB
  by_cases h : b.1 < r
  · rw [if_pos h, if_pos h, bd_e, bd_e, ck_t (by
      unfold cpR
      rw [show (0 : Int32).toNatClampNeg = 0 from rfl, TN_nI (by omega)]
      exact ⟨by decide, by decide, nI_pos (by omega), by omega, by omega⟩), bd_e]
    refine ⟨_, rfl, ⟨?_, ?_, fun j hj => ?_⟩, fun c h1 h2 => ?_, rfl⟩
    · rw [cI_ne (by decide), sI_o (by decide), sI_at]
    · rw [cI_ne (by decide), sI_at]
    · rw [cI_eq, show (0 : Int32).toNatClampNeg = 0 from rfl, TN_nI (by omega)]
      have := cpy_in (f := (sI (sI τ 64 0 (nI r)) 64 1 (nI s)).1 66) (g := (sI (sI τ 64 0 (nI r)) 64 1 (nI s)).1 65) (i := 0) (j := 0) hj
      rw [Nat.zero_add] at this
      rw [this, sI_ne (by decide), sI_ne (by decide)]
      exact hrow j hj
    · rw [cI_ne h2, sI_ne h1, sI_ne h1]
  · rw [if_neg h, if_neg h]
    exact ⟨τ, rfl, ⟨j1, j2, j3⟩, fun _ _ _ => rfl, rfl⟩
theorem waxO {K : CS} {d : Nat} (hd : d < 22) : F_X5_isWaxOnly_0 (nI d) = bI (decide (10 ≤ d ∧ d ≤ 20)) := by
  unfold F_X5_isWaxOnly_0
  rw [L10, L20, if_nI_lt (by omega) (by decide), if_nI_lt (by decide) (by omega)]
  by_cases h1 : d < 10
  · rw [if_pos h1]; exact bI_f (by omega)
  · rw [if_neg h1]
    by_cases h2 : 20 < d
    · rw [if_pos h2]; exact bI_f (by omega)
    · rw [if_neg h2]; exact bI_t (by omega)
theorem hue_wax {K : CS} {i d : Nat} {q : QD} (h : 10 ≤ d ∧ d ≤ 20) : hueQ (afQ K i d q) = hueQ q := by
  unfold afQ
  rw [if_neg (by omega)]
  by_cases h1 : d < 20
  · rw [if_pos h1]; split <;> rfl
  · rw [if_neg h1, if_pos (by omega)]; rfl
theorem ndN_lt {K : CS} {r : Nat} (hK : okK K) (h : r < nN K) : ndN K r < 22 := by
  have := ndN_ok h
  have h4 : kD K ≤ 4 := hK.2.1
  have h3 : kT K ≤ 3 := hK.2.2.1
  unfold okD at this
  omega
