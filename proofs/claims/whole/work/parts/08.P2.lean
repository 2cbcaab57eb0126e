/-! PURE 2: the class's square by every doing; its loops over squares -/
def dkQ (q : QD) : Nat := q.1 + q.2.1 + q.2.2.1
theorem darkI {q : QD} (h : okQ q) : F_X9_darkness_0 (nI (cd q)) = nI (dkQ q) := by
  unfold F_X9_darkness_0
  rw [L0, L1, L2, amt h (by decide), amt h (by decide), amt h (by decide), nI_add, nI_add]
  rfl
theorem crackI : ∀ k, k < 6 → F_X3_layersCracked_0 (nI k) = nI (crN k) := by decide +kernel
theorem mx0 : ∀ w, w < 4 → ∀ c, c < 4 → mx 0 (nI w - nI c) = nI (w - c) := by decide +kernel
theorem crN_lt (k : Nat) : crN k < 4 := by unfold crN; split <;> (try split) <;> omega
theorem crackedI {σ : gS} {K : CS} (hS : SC 10 σ K) (hK : okK K) {i : Nat} {q : QD} (hi : i < kS K) (hq : okQ q) : F_X2_cracked_0 (nI i) (nI (cd q)) σ = some (nI (cd (q.1, q.2.1, q.2.2.1, q.2.2.2 - crN (kK K i)))) := by
  have h8 : kS K ≤ 8 := hK.1
  have hk := hK.2.2.2.2.2.1 i hi
  have hw := hq.2.2.2
  unfold F_X2_cracked_0
  rw [ck_t (inR_t (by omega) (by decide)), TN_nI (by omega), hS.2.2.2.1 i hi, waxI hq, crackI _ (by omega), mx0 _ (by omega) _ (crN_lt _), wwax hq (by omega)]
theorem rinsedI {q : QD} (h : okQ q) : F_X2_rinsed_0 (nI (cd q)) = some (nI (cd (q.1 - 1, q.2.1 - 1, q.2.2.1 - 1, q.2.2.2))) := by
  have a0 := amt h (j := 0) (by decide)
  have a1 := amt h (j := 1) (by decide)
  have a2 := amt h (j := 2) (by decide)
  have e0 : cp q 0 = q.1 := rfl
  have e1 : cp q 1 = q.2.1 := rfl
  have e2 : cp q 2 = q.2.2.1 := rfl
  rw [e0] at a0
  rw [e1] at a1
  rw [e2] at a2
  have step : ∀ (n j a x y : Nat), j < 3 → a ≤ 9 → F_X9_amountOf_0 (nI (cd q)) (nI j) = nI a → (0 < a → 16 ^ j ≤ x ∧ y = x - 16 ^ j) → (a = 0 → y = x) → F_X2_rinsed_4 (n + 1) (nI (cd q)) (nI x) (nI j) = F_X2_rinsed_4 n (nI (cd q)) (nI y) (nI (j + 1)) := by
    intro n j a x y hj ha he h1 h2
    rw [F_X2_rinsed_4, if_neg (by rw [L3]; exact nI_ge (by omega) (by decide)), he]
    simp only [F_X2_rinsed_24, bd_e]
    rw [L1, nI_add, L0, if_nI_le (by omega) (by decide), ← L0]
    by_cases hz : a ≤ 0
    · rw [if_pos hz, wsame x hj, h2 (by omega)]
    · obtain ⟨g1, g2⟩ := h1 (by omega)
      rw [if_neg hz]
      have := wless hj g1
      rw [← L1, this, g2]
  unfold F_X2_rinsed_0
  rw [fu_s 4]
  obtain ⟨h1, h2, h3, -⟩ := h
  show F_X2_rinsed_4 (19996 + 4) (nI (cd q)) (nI (cd q)) (nI 0) = _
  rw [step _ 0 q.1 (cd q) (cd (q.1 - 1, q.2.1, q.2.2.1, q.2.2.2)) (by decide) h1 a0 (fun _ => by unfold cd; simp; omega) (fun _ => by unfold cd; simp; omega)]
  rw [step _ 1 q.2.1 _ (cd (q.1 - 1, q.2.1 - 1, q.2.2.1, q.2.2.2)) (by decide) h2 a1 (fun _ => by unfold cd; simp; omega) (fun _ => by unfold cd; simp; omega)]
  rw [step _ 2 q.2.2.1 _ (cd (q.1 - 1, q.2.1 - 1, q.2.2.1 - 1, q.2.2.2)) (by decide) h3 a2 (fun _ => by unfold cd; simp; omega) (fun _ => by unfold cd; simp; omega)]
  rw [F_X2_rinsed_4, if_pos (by decide)]
theorem bitI {s i : Nat} (hs : s < 256) (hi : i < 8) : ((nI s >>> (nI i &&& (31 : Int32))) &&& 1) = if s.testBit i then 1 else 0 := by
  have hk : ((nI i &&& (31 : Int32)).toBitVec.smod 32).toNat = i := (by decide : ∀ i, i < 8 → ((nI i &&& (31 : Int32)).toBitVec.smod 32).toNat = i) i hi
  rw [pk_shrN (by omega) _ i hk, pk_andN (by have := Nat.div_le_self s (2 ^ i); omega) 1 (by decide)]
  have e : s.testBit i = decide (s / 2 ^ i % 2 = 1) := Nat.testBit_eq_decide_div_mod_eq
  rw [e]
  have h2 : s / 2 ^ i % 2 = 0 ∨ s / 2 ^ i % 2 = 1 := by omega
  rcases h2 with h | h <;> rw [show (2:Nat) ^ 1 = 2 from rfl, h] <;> rfl
theorem afterI {σ : gS} {K : CS} (hS : SC 10 σ K) (hK : okK K) {i d : Nat} {q : QD} (hi : i < kS K) (hd : okD K d) (hq : okQ q) :
    F_X2_after_0 (nI i) (nI (cd q)) (nI d) σ = some (nI (cd (afQ K i d q))) := by
  have h8 : kS K ≤ 8 := hK.1
  have h4 : kD K ≤ 4 := hK.2.1
  have h3 : kT K ≤ 3 := hK.2.2.1
  have hw := hq.2.2.2
  have hd21 : d ≤ 21 := by unfold okD at hd; omega
  unfold F_X2_after_0 afQ
  rw [L10, if_nI_le (by decide) (by omega), L20, if_nI_le (by decide) (by omega), if_nI_eq (by omega) (by decide), waxI hq, if_nI_z (by omega), if_nI_z (by omega)]
  by_cases c1 : 10 ≤ d
  · rw [if_pos c1, if_neg (show ¬ d < 10 by omega)]
    by_cases c2 : 20 ≤ d
    · rw [if_pos c2, if_neg (show ¬ d < 20 by omega)]
      by_cases c3 : d = 20
      · rw [if_pos c3, if_pos c3, L0, wwax hq (by decide)]
      · rw [if_neg c3, if_neg c3]
        by_cases c4 : q.2.2.2 = 0
        · rw [if_pos c4, if_pos c4, rinsedI hq, ob_s, c4]
        · rw [if_neg c4, if_neg c4]
    · rw [if_neg c2, if_pos (show d < 20 by omega)]
      have ht : d - 10 < kT K := by unfold okD at hd; omega
      rw [pk_sub c1, ck_t (inR_t (by omega) (by decide)), TN_nI (by omega), hS.2.2.2.2.2 _ ht, bitI (hK.2.2.2.2.2.2.2 _) (by omega)]
      unfold F_X2_after_57
      by_cases c5 : (kN K (d - 10)).testBit i = true
      · rw [if_pos c5, if_pos c5, if_neg (by decide), if_neg (by decide), L3, wwax hq (by decide)]
      · rw [if_neg c5, if_neg c5, if_pos (by decide), if_pos (by decide)]
  · rw [if_neg c1, if_pos (show d < 10 by omega)]
    have hdd : d < kD K := by unfold okD at hd; omega
    by_cases c4 : q.2.2.2 = 0
    · rw [if_pos c4, if_pos c4, dyedI hS hK hi hdd hq, ob_s]
    · rw [if_neg c4, if_neg c4, crackedI hS hK hi hq, ob_s]
/-- what keeps the class's cloth -/
theorem SC.keep {b : Nat} {σ τ : gS} {K : CS} (h : SC b σ K) (h0 : τ.1 b = σ.1 b) (h1 : τ.1 (b + 1) = σ.1 (b + 1)) (h4 : τ.1 (b + 4) = σ.1 (b + 4)) (h5 : τ.1 (b + 5) = σ.1 (b + 5)) : SC b τ K := by
  unfold SC at *
  rw [h0, h1, h4, h5]
  exact h
/-- a row of squares: the class's -/
def RQ (f : Nat → Int32) (n : Nat) (q : Nat → QD) : Prop := ∀ i, i < n → f i = nI (cd (q i)) ∧ okQ (q i)
def RW (f : Nat → Int32) (n : Nat) (w : Nat → Nat) : Prop := ∀ i, i < n → f i = nI (w i) ∧ w i ≤ 7
theorem rightI {σ : gS} {n i : Nat} {w : Nat → Nat} {q : QD} (hw : RW (σ.1 12) n w) (hi : i < n) (hn : n ≤ 8) (hq : okQ q) : F_X2_isRight_0 (nI i) (nI (cd q)) σ = some (if hueQ q = w i then 1 else 0) := by
  unfold F_X2_isRight_0
  have h7 : hueQ q ≤ 7 := hueN_le _ _ _
  have := (hw i hi).2
  rw [hueI hq, ob_s, ck_t (inR_t (by omega) (by decide)), TN_nI (by omega), (hw i hi).1, if_nI_eq (by omega) (by omega)]
  split <;> rfl
def rsN : Nat → (Nat → Bool) → Nat
  | 0, _ => 0
  | n + 1, p => rsN n p + (if p n then 2 ^ n else 0)
theorem rsN_lt (n : Nat) (p : Nat → Bool) : rsN n p < 2 ^ n := by
  induction n with
  | zero => exact Nat.one_pos
  | succ n ih => unfold rsN; rw [Nat.pow_succ]; split <;> omega
theorem rsN_congr {n : Nat} {p p' : Nat → Bool} (h : ∀ i, i < n → p i = p' i) : rsN n p = rsN n p' := by
  induction n with
  | zero => rfl
  | succ n ih => unfold rsN; rw [ih (fun i hi => h i (by omega)), h n (by omega)]
theorem shl1 : ∀ i, i < 8 → (1 : Int32) <<< (nI i &&& (31 : Int32)) = nI (2 ^ i) := by decide +kernel
theorem rsN_or {i : Nat} (p : Nat → Bool) (hi : i < 8) : nI (rsN i p) ||| ((1 : Int32) <<< (nI i &&& (31 : Int32))) = nI (rsN i p + 2 ^ i) := by
  rw [shl1 i hi, nI_or]
  have := or_add (b := 1) (rsN_lt i p)
  rw [Nat.one_mul] at this
  rw [this]
theorem rightSetI {σ : gS} {K : CS} {c : Nat} {w : Nat → Nat} {q : Nat → QD} (hS : SC 10 σ K) (hK : okK K) (hw : RW (σ.1 12) (kS K) w) (hq : RQ (σ.1 c) (kS K) q) :
    F_X2_rightSet_0 c σ = some (nI (rsN (kS K) (fun i => decide (hueQ (q i) = w i)))) := by
  have h8 : kS K ≤ 8 := hK.1
  have key : ∀ (m i n : Nat), i + m = kS K → m < n → F_X2_rightSet_4 c n (nI (rsN i (fun i => decide (hueQ (q i) = w i)))) (nI i) σ = some (nI (rsN (kS K) (fun i => decide (hueQ (q i) = w i)))) := by
    intro m
    induction m with
    | zero =>
      intro i n hi hn
      obtain ⟨n, rfl⟩ : ∃ k, n = k + 1 := ⟨n - 1, by omega⟩
      rw [F_X2_rightSet_4, hS.1, if_pos (nI_le (by omega) (by omega)), show i = kS K by omega]
    | succ m ih =>
      intro i n hi hn
      obtain ⟨n, rfl⟩ : ∃ k, n = k + 1 := ⟨n - 1, by omega⟩
      have hi' : i < kS K := by omega
      rw [F_X2_rightSet_4, hS.1, if_neg (nI_ge hi' (by omega)), ck_t (inR_t (by omega) (by decide)), TN_nI (by omega), (hq i hi').1, rightI hw hi' h8 (hq i hi').2, ob_s]
      have h := ih (i + 1) n (by omega) (by omega)
      simp only [F_X2_rightSet_29, bd_e]
      rw [show nI i + 1 = nI (i + 1) from nI_1 i]
      by_cases hc : hueQ (q i) = w i
      · rw [if_pos hc, if_neg (by decide), rsN_or _ (by omega)]
        have e : rsN (i + 1) (fun i => decide (hueQ (q i) = w i)) = rsN i (fun i => decide (hueQ (q i) = w i)) + 2 ^ i := by
          rw [rsN]; simp [hc]
        rw [← e]; exact h
      · rw [if_neg hc, if_pos (by decide)]
        have e : rsN (i + 1) (fun i => decide (hueQ (q i) = w i)) = rsN i (fun i => decide (hueQ (q i) = w i)) := by
          rw [rsN]; simp [hc]
        rw [← e]; exact h
  have := key (kS K) 0 fu (by omega) (by unfold fu; omega)
  exact this
def smN : Nat → (Nat → Nat) → Nat
  | 0, _ => 0
  | n + 1, f => smN n f + f n
theorem darkOfI {σ : gS} {K : CS} {c : Nat} {q : Nat → QD} (hS : SC 10 σ K) (hK : okK K) (hq : RQ (σ.1 c) (kS K) q) :
    F_X2_darknessOf_0 c σ = some (nI (smN (kS K) (fun i => dkQ (q i)))) := by
  have h8 : kS K ≤ 8 := hK.1
  have key : ∀ (m i n : Nat), i + m = kS K → m < n → F_X2_darknessOf_4 c n (nI (smN i (fun i => dkQ (q i)))) (nI i) σ = some (nI (smN (kS K) (fun i => dkQ (q i)))) := by
    intro m
    induction m with
    | zero =>
      intro i n hi hn
      obtain ⟨n, rfl⟩ : ∃ k, n = k + 1 := ⟨n - 1, by omega⟩
      rw [F_X2_darknessOf_4, hS.1, if_pos (nI_le (by omega) (by omega)), show i = kS K by omega]
    | succ m ih =>
      intro i n hi hn
      obtain ⟨n, rfl⟩ : ∃ k, n = k + 1 := ⟨n - 1, by omega⟩
      have hi' : i < kS K := by omega
      rw [F_X2_darknessOf_4, hS.1, if_neg (nI_ge hi' (by omega)), ck_t (inR_t (by omega) (by decide)), TN_nI (by omega), (hq i hi').1, darkI (hq i hi').2, nI_add, bd_e, bd_e, show nI i + 1 = nI (i + 1) from nI_1 i]
      exact ih (i + 1) n (by omega) (by omega)
  exact key (kS K) 0 fu (by omega) (by unfold fu; omega)
theorem waxedI {σ : gS} {K : CS} {q : Nat → QD} (hS : SC 10 σ K) (hK : okK K) (hq : RQ (σ.1 13) (kS K) q) :
    F_X2_waxedSet_0 σ = some (nI (rsN (kS K) (fun i => decide (0 < (q i).2.2.2)))) := by
  have h8 : kS K ≤ 8 := hK.1
  have key : ∀ (m i n : Nat), i + m = kS K → m < n → F_X2_waxedSet_4 n (nI (rsN i (fun i => decide (0 < (q i).2.2.2)))) (nI i) σ = some (nI (rsN (kS K) (fun i => decide (0 < (q i).2.2.2)))) := by
    intro m
    induction m with
    | zero =>
      intro i n hi hn
      obtain ⟨n, rfl⟩ : ∃ k, n = k + 1 := ⟨n - 1, by omega⟩
      rw [F_X2_waxedSet_4, hS.1, if_pos (nI_le (by omega) (by omega)), show i = kS K by omega]
    | succ m ih =>
      intro i n hi hn
      obtain ⟨n, rfl⟩ : ∃ k, n = k + 1 := ⟨n - 1, by omega⟩
      have hi' : i < kS K := by omega
      have hw3 := (hq i hi').2.2.2.2
      rw [F_X2_waxedSet_4, hS.1, if_neg (nI_ge hi' (by omega)), ck_t (inR_t (by omega) (by decide)), TN_nI (by omega), (hq i hi').1, waxI (hq i hi').2, L0, if_nI_le (by omega) (by decide)]
      have h := ih (i + 1) n (by omega) (by omega)
      simp only [F_X2_waxedSet_30, bd_e]
      rw [show nI i + 1 = nI (i + 1) from nI_1 i]
      by_cases hc : 0 < (q i).2.2.2
      · rw [if_neg (by omega), rsN_or _ (by omega)]
        have e : rsN (i + 1) (fun i => decide (0 < (q i).2.2.2)) = rsN i (fun i => decide (0 < (q i).2.2.2)) + 2 ^ i := by
          rw [rsN]; simp [hc]
        rw [← e]; exact h
      · rw [if_pos (by omega)]
        have e : rsN (i + 1) (fun i => decide (0 < (q i).2.2.2)) = rsN i (fun i => decide (0 < (q i).2.2.2)) := by
          rw [rsN]; simp [hc]
        rw [← e]; exact h
  exact key (kS K) 0 fu (by omega) (by unfold fu; omega)
