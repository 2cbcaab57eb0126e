/-! PURE Q: round: the theory -/
theorem pigeon : ∀ (n : Nat) (f : Nat → Nat), (∀ i, i ≤ n → f i < n) → ∃ i j, i < j ∧ j ≤ n ∧ f i = f j
  | 0, f, h => absurd (h 0 (Nat.le_refl _)) (by omega)
  | n + 1, f, h => by
    by_cases hv : ∃ i, i ≤ n ∧ f i = f (n + 1)
    · obtain ⟨i, h1, h2⟩ := hv
      exact ⟨i, n + 1, by omega, Nat.le_refl _, h2⟩
    · have hne : ∀ i, i ≤ n → f i ≠ f (n + 1) := fun i hi e => hv ⟨i, hi, e⟩
      obtain ⟨i, j, h1, h2, h3⟩ := pigeon n (fun i => if f i < f (n + 1) then f i else f i - 1) (fun i hi => by
        have a := h i (by omega)
        have b := h (n + 1) (Nat.le_refl _)
        have c := hne i hi
        split <;> omega)
      have a := hne i (by omega)
      have b := hne j h2
      refine ⟨i, j, h1, by omega, ?_⟩
      split at h3 <;> split at h3 <;> omega
/-- iterates -/
def itQ (f : QD → QD) : Nat → QD → QD
  | 0, q => q
  | n + 1, q => f (itQ f n q)
/-- the first time that a state comes again -/
def RD (x : Nat → QD) (u l : Nat) : Prop := 0 < l ∧ x (u + l) = x u ∧ ∀ a b, a < b → b < u + l → x a ≠ x b
theorem RD_ex (x : Nat → QD) : ∀ T, (∃ s t, s < t ∧ t ≤ T ∧ x s = x t) → ∃ u l, RD x u l ∧ u + l ≤ T
  | 0, ⟨s, t, h1, h2, _⟩ => absurd h1 (by omega)
  | T + 1, ⟨s, t, h1, h2, h3⟩ => by
    by_cases hT : ∃ s t, s < t ∧ t ≤ T ∧ x s = x t
    · obtain ⟨u, l, h, hl⟩ := RD_ex x T hT
      exact ⟨u, l, h, by omega⟩
    · have ht : t = T + 1 := by
        by_cases e : t = T + 1
        · exact e
        · exact absurd ⟨s, t, h1, by omega, h3⟩ hT
      refine ⟨s, t - s, ⟨by omega, by rw [Nat.add_sub_cancel' (by omega)]; exact h3.symm, fun a b hab hb e => hT ⟨a, b, hab, by omega, e⟩⟩, by omega⟩
theorem RD_sh {f : QD → QD} {x : Nat → QD} (hx : ∀ t, x (t + 1) = f (x t)) {a b : Nat} (h : x a = x b) : ∀ k, x (a + k) = x (b + k)
  | 0 => h
  | k + 1 => by show x (a + k + 1) = x (b + k + 1); rw [hx, hx, RD_sh hx h k]
theorem RD_mul {f : QD → QD} {x : Nat → QD} (hx : ∀ t, x (t + 1) = f (x t)) {u l : Nat} (h : x (u + l) = x u) : ∀ k r, x (u + r + l * k) = x (u + r)
  | 0, r => rfl
  | k + 1, r => by
    have := RD_sh hx h (r + l * k)
    rw [show u + r + l * (k + 1) = u + l + (r + l * k) by rw [Nat.mul_succ]; omega, this, ← Nat.add_assoc, RD_mul hx h k r]
theorem RD_red {f : QD → QD} {x : Nat → QD} (hx : ∀ t, x (t + 1) = f (x t)) {u l : Nat} (h : x (u + l) = x u) {t : Nat} (ht : u ≤ t) : x t = x (u + (t - u) % l) := by
  have := RD_mul hx h ((t - u) / l) ((t - u) % l)
  rw [Nat.add_assoc, Nat.mod_add_div, Nat.add_sub_cancel' ht] at this
  exact this
theorem RD_eq {f : QD → QD} {x : Nat → QD} (hx : ∀ t, x (t + 1) = f (x t)) {u l : Nat} (h : RD x u l) {a b : Nat} (hab : a < b) (e : x a = x b) : u ≤ a ∧ l ∣ b - a := by
  obtain ⟨hl, hc, hd⟩ := h
  have red : ∀ t, u ≤ t → x t = x (u + (t - u) % l) := fun t ht => RD_red hx hc ht
  have lt : ∀ t, (t - u) % l < l := fun t => Nat.mod_lt _ hl
  have inj : ∀ s t, s < u + l → t < u + l → x s = x t → s = t := by
    intro s t hs ht q
    rcases Nat.lt_trichotomy s t with r | r | r
    · exact absurd q (hd s t r ht)
    · exact r
    · exact absurd q.symm (hd t s r hs)
  by_cases ha : u ≤ a
  · refine ⟨ha, ?_⟩
    have h1 := red a ha
    have h2 := red b (by omega)
    rw [h1, h2] at e
    have := inj _ _ (by have := lt a; omega) (by have := lt b; omega) e
    have h3 : (a - u) % l = (b - u) % l := by omega
    have := Nat.dvd_of_mod_eq_zero (Nat.sub_mod_eq_zero_of_mod_eq h3.symm)
    rw [show b - u - (a - u) = b - a by omega] at this
    exact this
  · exfalso
    by_cases hb : b < u + l
    · exact hd a b hab hb e
    · rw [red b (by omega)] at e
      have := inj _ _ (by omega) (by have := lt b; omega) e
      omega
theorem RD_in {f : QD → QD} {x : Nat → QD} (hx : ∀ t, x (t + 1) = f (x t)) {u l : Nat} (h : RD x u l) {a : Nat} (ha : u ≤ a) : x (a + l) = x a := by
  have := RD_sh hx h.2.1 (a - u)
  rw [show u + l + (a - u) = a + l by omega, show u + (a - u) = a by omega] at this
  exact this
/- a row on one square: the wax goes alone, each colour by itself -/
def wxN (K : CS) (i d w : Nat) : Nat := if d < 10 then (if w = 0 then 0 else w - crN (kK K i)) else if d < 20 then (if (kN K (d - 10)).testBit i then 3 else w) else if d = 20 then 0 else w
def clN (K : CS) (i d j w a : Nat) : Nat := if d < 10 then (if w = 0 then a + gnN (kK K i) (kA K (3 * d + j)) a else a) else if d < 20 then a else if d = 20 then a else if w = 0 then a - 1 else a
theorem af_w (K : CS) (i d : Nat) (q : QD) : (afQ K i d q).2.2.2 = wxN K i d q.2.2.2 := by
  unfold afQ wxN
  split
  · split
    · rename_i h; exact h
    · rfl
  · split
    · split <;> rfl
    · split
      · rfl
      · split
        · rename_i h; exact h.symm
        · rfl
theorem af_c (K : CS) (i d : Nat) (q : QD) {j : Nat} (hj : j < 3) : cp (afQ K i d q) j = clN K i d j q.2.2.2 (cp q j) := by
  have hj' : j = 0 ∨ j = 1 ∨ j = 2 := by omega
  unfold afQ clN
  rcases hj' with rfl | rfl | rfl
  all_goals
    split
    · split <;> rfl
    · split
      · split <;> rfl
      · split
        · rfl
        · split <;> rfl
def wxR (K : CS) (i : Nat) (D : Nat → Nat) : Nat → Nat → Nat
  | 0, w => w
  | n + 1, w => wxN K i (D n) (wxR K i D n w)
def clR (K : CS) (i : Nat) (D : Nat → Nat) (j : Nat) : Nat → Nat → Nat → Nat
  | 0, _, a => a
  | n + 1, w, a => clN K i (D n) j (wxR K i D n w) (clR K i D j n w a)
theorem rw_w (K : CS) (i : Nat) (D : Nat → Nat) (q : QD) : ∀ n, (rwQ K i D n q).2.2.2 = wxR K i D n q.2.2.2
  | 0 => rfl
  | n + 1 => by show (afQ K i (D n) (rwQ K i D n q)).2.2.2 = _; rw [af_w, rw_w K i D q n]; rfl
theorem rw_c (K : CS) (i : Nat) (D : Nat → Nat) (q : QD) {j : Nat} (hj : j < 3) : ∀ n, cp (rwQ K i D n q) j = clR K i D j n q.2.2.2 (cp q j)
  | 0 => rfl
  | n + 1 => by show cp (afQ K i (D n) (rwQ K i D n q)) j = _; rw [af_c K i _ _ hj, rw_c K i D q hj n, rw_w]; rfl
theorem wx_mono (K : CS) (i d : Nat) {w w' : Nat} (h : w ≤ w') : wxN K i d w ≤ wxN K i d w' := by
  unfold wxN
  split
  · split <;> split <;> omega
  · split
    · split
      · exact Nat.le_refl _
      · exact h
    · split
      · exact Nat.le_refl _
      · exact h
theorem wxR_mono (K : CS) (i : Nat) (D : Nat → Nat) {w w' : Nat} (h : w ≤ w') : ∀ n, wxR K i D n w ≤ wxR K i D n w'
  | 0 => h
  | n + 1 => wx_mono K i _ (wxR_mono K i D h n)
theorem qd_ext {a b : QD} (h0 : cp a 0 = cp b 0) (h1 : cp a 1 = cp b 1) (h2 : cp a 2 = cp b 2) (h3 : a.2.2.2 = b.2.2.2) : a = b := by
  obtain ⟨a1, a2, a3, a4⟩ := a
  obtain ⟨b1, b2, b3, b4⟩ := b
  simp [cp] at h0 h1 h2 h3
  rw [h0, h1, h2, h3]
theorem cp_le {q : QD} (h : okQ q) (j : Nat) : cp q j ≤ 9 := by
  obtain ⟨a, b, c, -⟩ := h
  unfold cp; split
  · exact a
  · split
    · exact b
    · exact c
theorem itQ_ok {f : QD → QD} (hf : ∀ q, okQ q → okQ (f q)) {q : QD} (h : okQ q) : ∀ t, okQ (itQ f t q)
  | 0 => h
  | t + 1 => hf _ (itQ_ok hf h t)
theorem d2520 : ∀ p, p < 11 → 0 < p → 2520 = p * (2520 / p) := by decide
theorem per13 {K : CS} {i n : Nat} {D : Nat → Nat} {q : QD} (hq : okQ q) : itQ (rwQ K i D n) (13 + 2520) q = itQ (rwQ K i D n) 13 q := by
  let x := fun t => itQ (rwQ K i D n) t q
  have hok : ∀ t, okQ (x t) := itQ_ok (fun q h => rwQ_ok h n) hq
  -- the wax stands from 3 on
  let v := fun t => (x t).2.2.2
  have hv3 : ∀ t, v t ≤ 3 := fun t => (hok t).2.2.2
  have hvs : ∀ t, v (t + 1) = wxR K i D n (v t) := fun t => rw_w K i D (x t) n
  have hst : ∀ t, v t = v (t + 1) → v (t + 1) = v (t + 2) := fun t h => by rw [hvs t, hvs (t + 1), h]
  have hup : ∀ t, v t ≤ v (t + 1) → v (t + 1) ≤ v (t + 2) := fun t h => by rw [hvs t, hvs (t + 1)]; exact wxR_mono K i D h n
  have hdn : ∀ t, v (t + 1) ≤ v t → v (t + 2) ≤ v (t + 1) := fun t h => by rw [hvs t, hvs (t + 1)]; exact wxR_mono K i D h n
  have h34 : v 3 = v 4 := by
    have s0 := hst 0; have s1 := hst 1; have s2 := hst 2
    have u0 := hup 0; have u1 := hup 1; have u2 := hup 2
    have d0 := hdn 0; have d1 := hdn 1; have d2 := hdn 2
    have b0 := hv3 0; have b1 := hv3 1; have b2 := hv3 2; have b3 := hv3 3; have b4 := hv3 4
    simp only [Nat.zero_add, Nat.reduceAdd] at *
    omega
  have hv : ∀ k, v (3 + k) = v 3 := by
    intro k
    induction k with
    | zero => rfl
    | succ k ih => show v (3 + k + 1) = v 3; rw [hvs, ih, ← hvs]; exact h34.symm
  have hcol : ∀ j, j < 3 → cp (x (13 + 2520)) j = cp (x 13) j := by
    intro j hj
    let a := fun t => cp (x (3 + t)) j
    have ha : ∀ t, a (t + 1) = clR K i D j n (v 3) (a t) := fun t => by
      have := rw_c K i D (x (3 + t)) hj n
      have e : (x (3 + t)).2.2.2 = v 3 := hv t
      rw [e] at this
      exact this
    obtain ⟨s, t, h1, h2, h3⟩ := pigeon 10 a (fun k _ => by have := cp_le (hok (3 + k)) j; show cp (x (3 + k)) j < 10; omega)
    have sh : ∀ k, a (s + k) = a (t + k) := by
      intro k
      induction k with
      | zero => exact h3
      | succ k ih => show a (s + k + 1) = a (t + k + 1); rw [ha, ha, ih]
    have per : ∀ m, s ≤ m → a (m + (t - s)) = a m := fun m hm => by
      have := sh (m - s)
      rw [show s + (m - s) = m by omega, show t + (m - s) = m + (t - s) by omega] at this
      exact this.symm
    have perk : ∀ k m, s ≤ m → a (m + (t - s) * k) = a m := by
      intro k
      induction k with
      | zero => intro m _; rfl
      | succ k ih => intro m hm; rw [Nat.mul_succ, ← Nat.add_assoc, per _ (by omega), ih m hm]
    have := perk (2520 / (t - s)) 10 (by omega)
    rw [← d2520 (t - s) (by omega) (by omega)] at this
    exact this
  refine qd_ext (hcol 0 (by decide)) (hcol 1 (by decide)) (hcol 2 (by decide)) ?_
  have e1 := hv (10 + 2520)
  have e2 := hv 10
  exact e1.trans e2.symm
/-- every row goes round on every square, with a lap that divides 2520 -/
theorem goes {K : CS} {i n : Nat} {D : Nat → Nat} {q : QD} (hq : okQ q) : ∃ u l, RD (fun t => itQ (rwQ K i D n) t q) u l ∧ u + l ≤ 2533 ∧ l ∣ 2520 := by
  obtain ⟨u, l, h, hl⟩ := RD_ex (fun t => itQ (rwQ K i D n) t q) 2533 ⟨13, 2533, by decide, by decide, (per13 hq).symm⟩
  refine ⟨u, l, h, hl, ?_⟩
  have := (RD_eq (f := rwQ K i D n) (fun t => rfl) h (a := 13) (b := 13 + 2520) (by decide) (per13 hq).symm).2
  rw [Nat.add_sub_cancel_left] at this
  exact this
