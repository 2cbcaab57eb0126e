/-! PURE 1: a square in a bath, and by every doing: the class -/
abbrev CS : Type := Nat × Nat × Nat × (Nat → Nat) × (Nat → Nat) × (Nat → Nat)
abbrev kS (K : CS) : Nat := K.1
abbrev kD (K : CS) : Nat := K.2.1
abbrev kT (K : CS) : Nat := K.2.2.1
abbrev kK (K : CS) : Nat → Nat := K.2.2.2.1
abbrev kA (K : CS) : Nat → Nat := K.2.2.2.2.1
abbrev kN (K : CS) : Nat → Nat := K.2.2.2.2.2
def okK (K : CS) : Prop := kS K ≤ 8 ∧ kD K ≤ 4 ∧ kT K ≤ 3 ∧ (0 < kS K ↔ 0 < kD K) ∧ (0 < kS K ↔ 0 < kT K) ∧ (∀ i, i < kS K → 1 ≤ kK K i ∧ kK K i ≤ 5) ∧ (∀ j, kA K j ≤ 3) ∧ (∀ t, kN K t < 256)
/-- the class's cloth at cell b -/
def SC (b : Nat) (σ : gS) (K : CS) : Prop := σ.1 b 0 = nI (kS K) ∧ σ.1 b 1 = nI (kD K) ∧ σ.1 b 2 = nI (kT K) ∧ (∀ i, i < kS K → σ.1 (b + 1) i = nI (kK K i)) ∧ (∀ j, j < 3 * kD K → σ.1 (b + 4) j = nI (kA K j)) ∧ (∀ t, t < kT K → σ.1 (b + 5) t = nI (kN K t))
/-- the reference's cloth -/
def SM (f : Nat → Int32) (K : CS) : Prop := f 0 = nI (kS K) ∧ f 1 = nI (kD K) ∧ f 2 = nI (kT K) ∧ (∀ i, i < kS K → f (3 + i) = nI (kK K i)) ∧ (∀ j, j < 3 * kD K → f (11 + j) = nI (kA K j)) ∧ (∀ t, t < kT K → f (23 + t) = nI (kN K t))
def tkN (k b h : Nat) : Nat := if k = 2 then (if 2 ≤ b then 2 else b) else if k = 3 then (if b = 0 then 0 else b + 1) else if k = 4 then (if b = 0 then 0 else b / 2 + 1) else if k = 5 then (if b = 0 then 0 else if h < 4 then b / 2 + 1 else 0) else b
theorem tkN_le {k b h : Nat} (hb : b ≤ 3) : tkN k b h ≤ 4 := by
  unfold tkN; split <;> (try split) <;> (try split) <;> (try split) <;> (try split) <;> (try split) <;> omega
def gnN (k b h : Nat) : Nat := min (tkN k b h) (9 - h)
theorem gnN_le {k b h : Nat} : gnN k b h ≤ 9 - h := Nat.min_le_right _ _
def crN (k : Nat) : Nat := if k = 3 then 2 else if k = 4 then 0 else 1
def dyQ (K : CS) (i d : Nat) (q : QD) : QD := (q.1 + gnN (kK K i) (kA K (3 * d)) q.1, q.2.1 + gnN (kK K i) (kA K (3 * d + 1)) q.2.1, q.2.2.1 + gnN (kK K i) (kA K (3 * d + 2)) q.2.2.1, q.2.2.2)
def afQ (K : CS) (i d : Nat) (q : QD) : QD :=
  if d < 10 then (if q.2.2.2 = 0 then dyQ K i d q else (q.1, q.2.1, q.2.2.1, q.2.2.2 - crN (kK K i)))
  else if d < 20 then (if (kN K (d - 10)).testBit i then (q.1, q.2.1, q.2.2.1, 3) else q)
  else if d = 20 then (q.1, q.2.1, q.2.2.1, 0)
  else (if q.2.2.2 = 0 then (q.1 - 1, q.2.1 - 1, q.2.2.1 - 1, 0) else q)
def okD (K : CS) (d : Nat) : Prop := d < kD K ∨ (10 ≤ d ∧ d < 10 + kT K) ∨ d = 20 ∨ d = 21
theorem dyQ_ok {K : CS} {i d : Nat} {q : QD} (h : okQ q) : okQ (dyQ K i d q) := by
  obtain ⟨h1, h2, h3, h4⟩ := h
  refine ⟨?_, ?_, ?_, h4⟩
  · show q.1 + gnN _ _ q.1 ≤ 9
    have := gnN_le (k := kK K i) (b := kA K (3 * d)) (h := q.1); omega
  · show q.2.1 + gnN _ _ q.2.1 ≤ 9
    have := gnN_le (k := kK K i) (b := kA K (3 * d + 1)) (h := q.2.1); omega
  · show q.2.2.1 + gnN _ _ q.2.2.1 ≤ 9
    have := gnN_le (k := kK K i) (b := kA K (3 * d + 2)) (h := q.2.2.1); omega
theorem afQ_ok {K : CS} {i d : Nat} {q : QD} (h : okQ q) : okQ (afQ K i d q) := by
  unfold afQ
  split
  · split
    · exact dyQ_ok h
    · obtain ⟨h1, h2, h3, h4⟩ := h; exact ⟨h1, h2, h3, by show q.2.2.2 - _ ≤ 3; omega⟩
  · split
    · split
      · obtain ⟨h1, h2, h3, h4⟩ := h; exact ⟨h1, h2, h3, Nat.le_refl _⟩
      · exact h
    · split
      · obtain ⟨h1, h2, h3, h4⟩ := h; exact ⟨h1, h2, h3, Nat.zero_le _⟩
      · split
        · obtain ⟨h1, h2, h3, h4⟩ := h; exact ⟨by show q.1 - 1 ≤ 9; omega, by show q.2.1 - 1 ≤ 9; omega, by show q.2.2.1 - 1 ≤ 9; omega, Nat.zero_le _⟩
        · exact h
theorem takenI {k b h : Nat} (hk : k ≤ 5) (hb : b ≤ 3) (hh : h ≤ 9) : F_X3_taken_0 (nI k) (nI b) (nI h) = some (nI (tkN k b h)) := by
  exact (by decide +kernel : ∀ k, k < 6 → ∀ b, b < 4 → ∀ h, h < 10 → F_X3_taken_0 (nI k) (nI b) (nI h) = some (nI (tkN k b h))) k (by omega) b (by omega) h (by omega)
theorem adye {σ : gS} {K : CS} (hS : SC 10 σ K) (hK : okK K) {d j : Nat} (hd : d < kD K) (hj : j < 3) : F_X2_amountInDye_0 (nI d) (nI j) σ = some (nI (kA K (3 * d + j))) := by
  have h4 : kD K ≤ 4 := hK.2.1
  unfold F_X2_amountInDye_0
  rw [L3, pk_mul, nI_add, ck_t (inR_t (by omega) (by decide)), TN_nI (by omega), Nat.mul_comm d 3, hS.2.2.2.2.1 _ (by omega)]
theorem gainI {σ : gS} {K : CS} (hS : SC 10 σ K) (hK : okK K) {i d j : Nat} {q : QD} (hi : i < kS K) (hd : d < kD K) (hj : j < 3) (hq : okQ q) :
    F_X2_gain_0 (nI i) (nI (cd q)) (nI d) (nI j) σ = some (nI (gnN (kK K i) (kA K (3 * d + j)) (cp q j))) := by
  have h8 : kS K ≤ 8 := hK.1
  have hk := hK.2.2.2.2.2.1 i hi
  have ha := hK.2.2.2.2.2.2.1 (3 * d + j)
  have hc : cp q j ≤ 9 := by unfold cp; obtain ⟨h1, h2, h3, h4⟩ := hq; split <;> (try split) <;> omega
  unfold F_X2_gain_0
  rw [amt hq hj, bd_e, ck_t (inR_t (by omega) (by decide)), adye hS hK hd hj, ob_s, TN_nI (by omega), hS.2.2.2.1 i hi, takenI hk.2 ha hc, ob_s, L9, pk_sub hc, mn_nI (by have := tkN_le (k := kK K i) (h := cp q j) ha; omega) (by omega)]
  rfl
theorem fu_s (k : Nat) (h : k ≤ 20000 := by decide) : fu = (20000 - k) + k := by unfold fu; omega
theorem dyedI {σ : gS} {K : CS} (hS : SC 10 σ K) (hK : okK K) {i d : Nat} {q : QD} (hi : i < kS K) (hd : d < kD K) (hq : okQ q) :
    F_X2_dyed_0 (nI i) (nI (cd q)) (nI d) σ = some (nI (cd (dyQ K i d q))) := by
  have g0 := gainI hS hK hi hd (j := 0) (by decide) hq
  have g1 := gainI hS hK hi hd (j := 1) (by decide) hq
  have g2 := gainI hS hK hi hd (j := 2) (by decide) hq
  have l0 : gnN (kK K i) (kA K (3 * d + 0)) (cp q 0) < 16 := Nat.lt_of_le_of_lt gnN_le (by omega)
  have l1 : gnN (kK K i) (kA K (3 * d + 1)) (cp q 1) < 16 := Nat.lt_of_le_of_lt gnN_le (by omega)
  have l2 : gnN (kK K i) (kA K (3 * d + 2)) (cp q 2) < 16 := Nat.lt_of_le_of_lt gnN_le (by omega)
  unfold F_X2_dyed_0
  rw [fu_s 4]
  show F_X2_dyed_6 (19996 + 4) (nI i) (nI (cd q)) (nI d) (nI (cd q)) (nI 0) σ = _
  unfold F_X2_dyed_6
  rw [if_neg (by decide), g0, ob_s, wmore _ (by decide) l0, bd_e, bd_e]
  show F_X2_dyed_6 (19996 + 3) (nI i) (nI (cd q)) (nI d) _ (nI 1) σ = _
  unfold F_X2_dyed_6
  rw [if_neg (by decide), g1, ob_s, wmore _ (by decide) l1, bd_e, bd_e]
  show F_X2_dyed_6 (19996 + 2) (nI i) (nI (cd q)) (nI d) _ (nI 2) σ = _
  unfold F_X2_dyed_6
  rw [if_neg (by decide), g2, ob_s, wmore _ (by decide) l2, bd_e, bd_e]
  show F_X2_dyed_6 (19996 + 1) (nI i) (nI (cd q)) (nI d) _ (nI 3) σ = _
  unfold F_X2_dyed_6
  rw [if_pos (by decide)]
  congr 2
  unfold dyQ cd cp
  simp
  omega
def hueN (a b c : Nat) : Nat := (if 0 < a ∧ max a (max b c) ≤ 2 * a then 1 else 0) + (if 0 < b ∧ max a (max b c) ≤ 2 * b then 2 else 0) + (if 0 < c ∧ max a (max b c) ≤ 2 * c then 4 else 0)
def hueQ (q : QD) : Nat := hueN q.1 q.2.1 q.2.2.1
theorem hueN_le (a b c : Nat) : hueN a b c ≤ 7 := by unfold hueN; split <;> split <;> split <;> omega
theorem hueI {q : QD} (h : okQ q) : F_X9_hueOf_0 (nI (cd q)) = some (nI (hueQ q)) := by
  have a0 := amt h (j := 0) (by decide)
  have a1 := amt h (j := 1) (by decide)
  have a2 := amt h (j := 2) (by decide)
  have e0 : cp q 0 = q.1 := rfl
  have e1 : cp q 1 = q.2.1 := rfl
  have e2 : cp q 2 = q.2.2.1 := rfl
  rw [e0] at a0
  rw [e1] at a1
  rw [e2] at a2
  obtain ⟨h1, h2, h3, -⟩ := h
  unfold F_X9_hueOf_0
  rw [L0, L1, L2, a0, a1, a2, mx_nI (by omega) (by omega), mx_nI (by omega) (by omega), bd_e]
  unfold hueQ hueN
  generalize hm : max q.1 (max q.2.1 q.2.2.1) = m
  have hm9 : m ≤ 9 := by omega
  rw [fu_s 4]
  have step : ∀ (n j a s : Nat), j < 3 → a ≤ 9 → F_X9_amountOf_0 (nI (cd q)) (nI j) = nI a → F_X9_hueOf_26 (n + 1) (nI (cd q)) (nI m) (nI s) (nI j) = F_X9_hueOf_26 n (nI (cd q)) (nI m) (if 0 < a ∧ m ≤ 2 * a then nI s ||| nI (2 ^ j) else nI s) (nI (j + 1)) := by
    intro n j a s hj ha he
    have hsh : nI 1 <<< (nI j &&& (31 : Int32)) = nI (2 ^ j) := by
      have h3 : j = 0 ∨ j = 1 ∨ j = 2 := by omega
      rcases h3 with rfl | rfl | rfl <;> decide
    rw [F_X9_hueOf_26, if_neg (by rw [L3]; exact nI_ge (by omega) (by decide)), he, bd_e]
    simp only [F_X9_hueOf_57, bd_e, L0, L1, L2, hsh, nI_add, pk_mul]
    rw [if_nI_le (by omega) (by decide), if_nI_lt (by omega) (by omega)]
    by_cases c1 : a ≤ 0
    · rw [if_pos c1, if_neg (by omega)]
    · rw [if_neg c1]
      by_cases c2 : 2 * a < m
      · rw [if_pos c2, if_neg (by omega)]
      · rw [if_neg c2, if_pos (by omega)]
  rw [step _ 0 q.1 0 (by decide) h1 a0]
  have hb : ∀ (P : Prop) [Decidable P], (if P then nI 0 ||| nI (2 ^ 0) else nI 0) = nI (if P then 1 else 0) := by
    intro P _; split <;> rfl
  rw [hb]
  generalize hs : (if 0 < q.1 ∧ m ≤ 2 * q.1 then 1 else 0) = s
  have hs1 : s < 2 := by rw [← hs]; split <;> omega
  rw [step _ 1 q.2.1 s (by decide) h2 a1]
  have hb2 : (if 0 < q.2.1 ∧ m ≤ 2 * q.2.1 then nI s ||| nI (2 ^ 1) else nI s) = nI (s + if 0 < q.2.1 ∧ m ≤ 2 * q.2.1 then 2 else 0) := by
    split
    · have : s = 0 ∨ s = 1 := by omega
      rcases this with rfl | rfl <;> rfl
    · rfl
  rw [hb2]
  generalize ht : (s + if 0 < q.2.1 ∧ m ≤ 2 * q.2.1 then 2 else 0) = t
  have ht1 : t < 4 := by rw [← ht]; split <;> omega
  rw [step _ 2 q.2.2.1 t (by decide) h3 a2]
  have hb3 : (if 0 < q.2.2.1 ∧ m ≤ 2 * q.2.2.1 then nI t ||| nI (2 ^ 2) else nI t) = nI (t + if 0 < q.2.2.1 ∧ m ≤ 2 * q.2.2.1 then 4 else 0) := by
    split
    · have : t = 0 ∨ t = 1 ∨ t = 2 ∨ t = 3 := by omega
      rcases this with rfl | rfl | rfl | rfl <;> rfl
    · rfl
  rw [hb3, F_X9_hueOf_26, if_pos (by decide)]
