/-! PURE K: cracks -/
theorem gcdI : ∀ (k a b c f : Nat), b < 2 ^ k → a < 2 ^ 31 → b < 2 ^ 31 → c + 2 * k ≤ 99 → 2 * k + 1 < f → F_X1_greatestCommon_7 f (nI a) (nI b) (nI c) = some (nI (max (Nat.gcd a b) 1)) := by
  have fin : ∀ (a f : Nat) (x : Int32), a < 2 ^ 31 → F_X1_greatestCommon_7 (f + 1) (nI a) (nI 0) x = some (nI (max (Nat.gcd a 0) 1)) := by
    intro a f x ha
    rw [F_X1_greatestCommon_7, if_pos (by decide), F_X1_greatestCommon_34, L1, mx_nI ha (by decide), Nat.gcd_zero_right]
  have st : ∀ (a b c f : Nat), 0 < b → b < 2 ^ 31 → a < 2 ^ 31 → c < 100 → F_X1_greatestCommon_7 (f + 1) (nI a) (nI b) (nI c) = F_X1_greatestCommon_7 f (nI b) (nI (a % b)) (nI (c + 1)) := by
    intro a b c f h0 hb ha hc
    rw [F_X1_greatestCommon_7, if_neg (nI_ne0 (by omega) (by omega)), if_neg (show ¬ (100 : Int32) ≤ nI c from nI_ge (b := 100) (by omega) (by omega)), ck_t (nI_ne0 (by omega) (by omega)), pk_rem ha h0 hb, bd_e, bd_e, show nI c + 1 = nI (c + 1) from nI_1 c]
  have gr : ∀ a b, Nat.gcd a b = Nat.gcd b (a % b) := fun a b => by rw [Nat.gcd_comm a b, Nat.gcd_rec b a, Nat.gcd_comm]
  intro k
  induction k with
  | zero =>
    intro a b c f hb ha hb' hc hf
    obtain ⟨f, rfl⟩ : ∃ z, f = z + 1 := ⟨f - 1, by omega⟩
    have : b = 0 := by rw [Nat.pow_zero] at hb; omega
    subst this
    exact fin a f _ ha
  | succ k ih =>
    intro a b c f hb ha hb' hc hf
    obtain ⟨f, rfl⟩ : ∃ z, f = z + 2 := ⟨f - 2, by omega⟩
    by_cases h0 : b = 0
    · subst h0; exact fin a _ _ ha
    · have hr := Nat.mod_lt a (show 0 < b by omega)
      rw [st a b c (f + 1) (by omega) hb' ha (by omega), gr a b]
      by_cases h1 : a % b = 0
      · rw [h1]; exact fin b _ _ hb'
      · have hr2 := Nat.mod_lt b (show 0 < a % b by omega)
        have h2 : b % (a % b) + a % b ≤ b := by
          have h3 := Nat.mod_add_div b (a % b)
          have h4 : 1 ≤ b / (a % b) := (Nat.le_div_iff_mul_le (by omega)).mpr (by omega)
          have h5 : (a % b) * 1 ≤ (a % b) * (b / (a % b)) := Nat.mul_le_mul_left _ h4
          omega
        rw [st b (a % b) (c + 1) f (by omega) (by omega) hb' (by omega), gr b (a % b)]
        rw [Nat.pow_succ] at hb
        exact ih (a % b) (b % (a % b)) (c + 1 + 1) f (by omega) (by omega) (by omega) (by omega) (by omega)
theorem gcdI0 {a b : Nat} (ha : a < 2 ^ 31) (hb : b < 2 ^ 31) : F_X1_greatestCommon_0 (nI a) (nI b) = some (nI (max (Nat.gcd a b) 1)) := gcdI 31 a b 0 fu hb ha hb (by decide) (by unfold fu; omega)
/-- good and all of a square, the weights -/
def gdN (K : CS) (w : Nat → Nat) (q : Nat → QD) (d p i : Nat) : Nat := if (q i).2.2.2 = 0 then (if hueQ (dyQ K i d (q i)) = w i then 1 else 0) else (if hueQ (dyQ K i d (q i)) = w i then p else 0) + (if hueQ (q i) = w i then 10 - p else 0)
def alN (q : Nat → QD) (i : Nat) : Nat := if (q i).2.2.2 = 0 then 1 else 10
theorem gdN_le {K : CS} {w : Nat → Nat} {q : Nat → QD} {d p i : Nat} (hp : p ≤ 10) : gdN K w q d p i ≤ alN q i := by
  unfold gdN alN; split <;> split <;> (try split) <;> omega
def wsN (f : Nat → Nat) (g a k : Nat) : Nat := f k * (a - g) + (if k = 0 then 0 else f (k - 1) * g)
def WN (K : CS) (w : Nat → Nat) (q : Nat → QD) (d p : Nat) : Nat → Nat → Nat
  | 0, k => if k = 0 then 1 else 0
  | i + 1, k => wsN (WN K w q d p i) (gdN K w q d p i) (alN q i) k
def AN (q : Nat → QD) : Nat → Nat
  | 0 => 1
  | i + 1 => AN q i * alN q i
theorem AN_pos (q : Nat → QD) : ∀ i, 0 < AN q i
  | 0 => Nat.one_pos
  | i + 1 => Nat.mul_pos (AN_pos q i) (by unfold alN; split <;> omega)
theorem AN_le (q : Nat → QD) : ∀ i, AN q i ≤ 10 ^ i
  | 0 => Nat.le_refl _
  | i + 1 => by rw [Nat.pow_succ]; exact Nat.mul_le_mul (AN_le q i) (by unfold alN; split <;> omega)
theorem WN_le {K : CS} {w : Nat → Nat} {q : Nat → QD} {d p : Nat} (hp : p ≤ 10) : ∀ i k, WN K w q d p i k ≤ AN q i
  | 0, k => by unfold WN AN; split <;> omega
  | i + 1, k => by
    have hg := gdN_le (K := K) (w := w) (q := q) (d := d) (i := i) hp
    show wsN _ _ _ _ ≤ AN q i * alN q i
    unfold wsN
    have h1 := Nat.mul_le_mul_right (alN q i - gdN K w q d p i) (WN_le (K := K) (w := w) (q := q) (d := d) hp i k)
    have h2 := Nat.mul_le_mul_right (gdN K w q d p i) (WN_le (K := K) (w := w) (q := q) (d := d) hp i (k - 1))
    have h3 : AN q i * (alN q i - gdN K w q d p i) + AN q i * gdN K w q d p i = AN q i * alN q i := by rw [← Nat.mul_add, Nat.sub_add_cancel hg]
    split <;> omega
/-- the sum from n on -/
def PN (f : Nat → Nat) (n : Nat) : Nat := smN (9 - n) (fun k => f (n + k))
theorem PN_le {f : Nat → Nat} {A n : Nat} (h : ∀ k, f k ≤ A) : PN f n ≤ 9 * A := by
  unfold PN
  have : ∀ m, smN m (fun k => f (n + k)) ≤ m * A := by
    intro m
    induction m with
    | zero => simp [smN]
    | succ m ih => have := h (n + m); show smN m _ + f (n + m) ≤ _; rw [Nat.succ_mul]; omega
  exact Nat.le_trans (this _) (Nat.mul_le_mul_right _ (by omega))
theorem weighI {τ : gS} {f : Nat → Nat} {g a : Nat} (hf : ∀ k, k < 9 → τ.1 78 k = nI (f k)) (hg : g ≤ a) : ∃ h, F_X1_weigh_0 (nI g) (nI a) τ = some (s1 τ 78 h) ∧ ∀ k, k < 9 → h k = nI (wsN f g a k) := by
  have key : ∀ (j n : Nat) (h : Nat → Int32), j ≤ 9 → j < n → (∀ k, k < 9 → h k = nI (if k < j then f k else wsN f g a k)) → ∃ h', F_X1_weigh_8 n (nI g) (nI a) (nI j + (-1)) (s1 τ 78 h) = some (s1 τ 78 h') ∧ ∀ k, k < 9 → h' k = nI (wsN f g a k) := by
    intro j
    induction j with
    | zero =>
      intro n h hj hn hh
      obtain ⟨n, rfl⟩ : ∃ z, n = z + 1 := ⟨n - 1, by omega⟩
      refine ⟨h, ?_, fun k hk => by rw [hh k hk, if_neg (by omega)]⟩
      rw [F_X1_weigh_8, if_pos (by decide)]
    | succ j ih =>
      intro n h hj hn hh
      obtain ⟨n, rfl⟩ : ∃ z, n = z + 1 := ⟨n - 1, by omega⟩
      rw [nI_m1 (by omega), Nat.add_sub_cancel, F_X1_weigh_8, if_neg (nn0 (by omega))]
      have hr : inR (nI j) 9 := inR_t (by omega) (by decide)
      have step : ∀ (y : Int32) (z : Nat), y = nI z → wsN f g a j = f j * (a - g) + z → ∃ h', F_X1_weigh_30 (F_X1_weigh_8 n) (nI g) (nI a) (nI j) y (s1 τ 78 h) = some (s1 τ 78 h') ∧ ∀ k, k < 9 → h' k = nI (wsN f g a k) := by
        intro y z hy hz
        unfold F_X1_weigh_30
        rw [ck_t hr, ck_t hr, TN_nI (by omega), s1_eq, hh j (by omega), if_pos (by omega), pk_sub hg, pk_mul, hy, nI_add, ← hz, bd_e, bd_e, sI_s1']
        refine ih n _ (by omega) (by omega) (fun k hk => ?_)
        by_cases q : k = j
        · rw [q, upd_eq, if_neg (by omega)]
        · rw [upd_ne q, hh k hk]
          by_cases q2 : k < j
          · rw [if_pos q2, if_pos (by omega)]
          · rw [if_neg q2, if_neg (by omega)]
      by_cases h0 : j = 0
      · subst h0
        rw [if_pos (show nI 0 ≤ (0 : Int32) by decide)]
        exact step 0 0 rfl (by unfold wsN; rw [if_pos rfl])
      · rw [if_neg (show ¬ nI j ≤ (0 : Int32) from nI_ge (a := 0) (by omega) (by omega)), L1, pk_sub (by omega), ck_t (inR_t (by omega) (by decide)), TN_nI (by omega), s1_eq, hh (j - 1) (by omega), if_pos (by omega), pk_mul]
        exact step _ _ rfl (by unfold wsN; rw [if_neg h0])
  unfold F_X1_weigh_0
  rw [bd_e]
  obtain ⟨h', r1, r2⟩ := key 9 fu (τ.1 78) (by omega) (by unfold fu; omega) (fun k hk => by rw [hf k hk, if_pos hk])
  rw [s1_id] at r1
  exact ⟨h', r1, r2⟩
def CF (τ τ' : gS) : Prop := (∀ c, c ≠ 77 → c ≠ 78 → τ'.1 c = τ.1 c) ∧ τ'.2 = τ.2
theorem CF.tr {a b c : gS} (h : CF a b) (g : CF b c) : CF a c := ⟨fun x h1 h2 => (g.1 x h1 h2).trans (h.1 x h1 h2), g.2.trans h.2⟩
theorem CF.ag {σ τ : gS} (h : CF σ τ) : Ag σ τ := ⟨fun c hc => h.1 c (by omega) (by omega), fun c hc => by rw [h.2], by rw [h.1 4 (by decide) (by decide)], by rw [h.1 82 (by decide) (by decide)], by rw [h.1 82 (by decide) (by decide)], by rw [h.1 82 (by decide) (by decide)]⟩
theorem crack183 {A : Nat} {f : Nat → Nat} {n : Nat} (hA : 0 < A) (hA2 : A < 2 ^ 31) (hP : PN f n < 2 ^ 31) (hn : n ≤ 9) : ∀ (m k F : Nat) (τ : gS), k + m = 9 - n → m < F → (∀ k, k < 9 → τ.1 78 k = nI (f k)) →
    ∃ τ', F_X1_crack_183 F (nI A) (nI (smN k (fun k => f (n + k)))) (nI (n + k)) τ = some τ' ∧ τ'.1 77 0 = nI (PN f n / Nat.gcd A (PN f n)) ∧ τ'.1 77 1 = nI (A / Nat.gcd A (PN f n)) ∧ CF τ τ' := by
  intro m
  induction m with
  | zero =>
    intro k F τ hk hF hf
    obtain ⟨F, rfl⟩ : ∃ z, F = z + 1 := ⟨F - 1, by omega⟩
    have hg : 0 < Nat.gcd A (PN f n) := Nat.gcd_pos_of_pos_left _ hA
    have hgA : Nat.gcd A (PN f n) ≤ A := Nat.gcd_le_left _ hA
    rw [show smN k (fun k => f (n + k)) = PN f n by unfold PN; rw [show k = 9 - n by omega], F_X1_crack_183, if_pos (show (9 : Int32) ≤ nI (n + k) from nI_le (a := 9) (by omega) (by omega)), gcdI0 hA2 hP, ob_s, show max (Nat.gcd A (PN f n)) 1 = Nat.gcd A (PN f n) by omega, ck_t (nI_ne0 (by omega) (by omega)), bd_e, ck_t (nI_ne0 (by omega) (by omega)), pk_div hP hg (by omega), pk_div hA2 hg (by omega), bd_e]
    refine ⟨_, rfl, ?_, sI_at _ _ _ _, fun c h1 h2 => ?_, rfl⟩
    · rw [sI_o (by decide), sI_at]
    · rw [sI_ne h1, sI_ne h1]
  | succ m ih =>
    intro k F τ hk hF hf
    obtain ⟨F, rfl⟩ : ∃ z, F = z + 1 := ⟨F - 1, by omega⟩
    rw [F_X1_crack_183, if_neg (show ¬ (9 : Int32) ≤ nI (n + k) from nI_ge (b := 9) (by omega) (by omega)), ck_t (inR_t (by omega) (by decide)), TN_nI (by omega), hf (n + k) (by omega), nI_add, bd_e, bd_e, show nI (n + k) + 1 = nI (n + (k + 1)) from nI_1 _]
    exact ih (k + 1) F τ (by omega) (by omega) hf
theorem crack40 {K : CS} {w : Nat → Nat} {q : Nat → QD} {d p n : Nat} (hK : okK K) (hd : d < kD K) (hp : p ≤ 10) (hn : n ≤ 8) : ∀ (m i F : Nat) (τ : gS), i + m = kS K → m < F → SC 10 τ K → RW (τ.1 12) (kS K) w → RQ (τ.1 13) (kS K) q → (∀ k, k < 9 → τ.1 78 k = nI (WN K w q d p i k)) →
    ∃ τ', F_X1_crack_40 F (nI d) (nI n) (nI p) (nI (AN q i)) (nI i) τ = some τ' ∧ τ'.1 77 0 = nI (PN (WN K w q d p (kS K)) n / Nat.gcd (AN q (kS K)) (PN (WN K w q d p (kS K)) n)) ∧ τ'.1 77 1 = nI (AN q (kS K) / Nat.gcd (AN q (kS K)) (PN (WN K w q d p (kS K)) n)) ∧ CF τ τ' := by
  have h8 : kS K ≤ 8 := hK.1
  have hA8 : AN q (kS K) ≤ 10 ^ 8 := Nat.le_trans (AN_le q _) (Nat.pow_le_pow_right (by decide) h8)
  have hP : PN (WN K w q d p (kS K)) n ≤ 9 * 10 ^ 8 := Nat.le_trans (PN_le (WN_le hp _)) (Nat.mul_le_mul_left _ hA8)
  intro m
  induction m with
  | zero =>
    intro i F τ hi hF hS hw hq hf
    obtain ⟨F, rfl⟩ : ∃ z, F = z + 1 := ⟨F - 1, by omega⟩
    have hik : i = kS K := by omega
    subst hik
    rw [F_X1_crack_40, hS.1, if_pos (nI_le (by omega) (by omega))]
    exact crack183 (AN_pos q _) (by omega) (by omega) (by omega) (9 - n) 0 fu τ (by omega) (by unfold fu; omega) hf
  | succ m ih =>
    intro i F τ hi hF hS hw hq hf
    obtain ⟨F, rfl⟩ : ∃ z, F = z + 1 := ⟨F - 1, by omega⟩
    have hik : i < kS K := by omega
    obtain ⟨qe, qo⟩ := hq i hik
    have hq3 := qo.2.2.2
    rw [F_X1_crack_40, hS.1, if_neg (nI_ge (by omega) (by omega)), ck_t (inR_t (by omega) (by decide)), TN_nI (by omega), qe, bd_e, waxI qo]
    -- behind the weights of the square
    have step : ∀ (a b : Nat), a + b = alN q i → (if hueQ (dyQ K i d (q i)) = w i then a else 0) + (if hueQ (q i) = w i then b else 0) = gdN K w q d p i → ∃ τ', F_X1_crack_100 (F_X1_crack_40 F) (nI d) (nI n) (nI p) (nI (AN q i)) (nI i) (nI (cd (q i))) (nI a) (nI b) τ = some τ' ∧ τ'.1 77 0 = nI (PN (WN K w q d p (kS K)) n / Nat.gcd (AN q (kS K)) (PN (WN K w q d p (kS K)) n)) ∧ τ'.1 77 1 = nI (AN q (kS K) / Nat.gcd (AN q (kS K)) (PN (WN K w q d p (kS K)) n)) ∧ CF τ τ' := by
      intro a b hab hgd
      unfold F_X1_crack_100
      rw [dyedI hS hK hik hd qo, ob_s, rightI hw hik h8 (dyQ_ok qo), ob_s, rightI hw hik h8 qo, ob_s]
      have fin : ∃ τ', F_X1_crack_152 (F_X1_crack_40 F) (nI d) (nI n) (nI p) (nI (AN q i)) (nI i) (nI a) (nI b) (nI (if hueQ (q i) = w i then b else 0)) (nI (if hueQ (dyQ K i d (q i)) = w i then a else 0)) τ = some τ' ∧ τ'.1 77 0 = nI (PN (WN K w q d p (kS K)) n / Nat.gcd (AN q (kS K)) (PN (WN K w q d p (kS K)) n)) ∧ τ'.1 77 1 = nI (AN q (kS K) / Nat.gcd (AN q (kS K)) (PN (WN K w q d p (kS K)) n)) ∧ CF τ τ' := by
        unfold F_X1_crack_152
        rw [nI_add, nI_add, hgd, hab]
        obtain ⟨h, w1, w2⟩ := weighI hf (gdN_le (K := K) (w := w) (d := d) hp)
        rw [w1, ob_s, pk_mul, bd_e, bd_e, show nI i + 1 = nI (i + 1) from nI_1 i]
        obtain ⟨τ', r1, r2, r3, r4⟩ := ih (i + 1) F (s1 τ 78 h) (by omega) (by omega) (hS.keep (s1_ne (by decide)) (s1_ne (by decide)) (s1_ne (by decide)) (s1_ne (by decide))) (by rw [s1_ne (by decide)]; exact hw) (by rw [s1_ne (by decide)]; exact hq) (fun k hk => by rw [s1_eq, w2 k hk]; rfl)
        exact ⟨τ', r1, r2, r3, CF.tr ⟨fun c h1 h2 => s1_ne h2, rfl⟩ r4⟩
      by_cases e1 : hueQ (dyQ K i d (q i)) = w i
      · rw [if_pos e1] at fin
        rw [if_pos e1, if_neg (by decide)]
        unfold F_X1_crack_141
        by_cases e2 : hueQ (q i) = w i
        · rw [if_pos e2] at fin
          rw [if_pos e2, if_neg (by decide)]; exact fin
        · rw [if_neg e2] at fin
          rw [if_neg e2, if_pos rfl]; exact fin
      · rw [if_neg e1] at fin
        rw [if_neg e1, if_pos rfl]
        unfold F_X1_crack_141
        by_cases e2 : hueQ (q i) = w i
        · rw [if_pos e2] at fin
          rw [if_pos e2, if_neg (by decide)]; exact fin
        · rw [if_neg e2] at fin
          rw [if_neg e2, if_pos rfl]; exact fin
    by_cases hz : (q i).2.2.2 = 0
    · rw [hz, if_pos (show nI 0 ≤ (0 : Int32) by decide), F_X1_crack_71, if_pos rfl, F_X1_crack_84, if_pos rfl]
      exact step 1 0 (by unfold alN; rw [if_pos hz]) (by unfold gdN; rw [if_pos hz, ite_self]; rfl)
    · rw [if_neg (show ¬ nI (q i).2.2.2 ≤ (0 : Int32) from nI_ge (a := 0) (by omega) (by omega)), F_X1_crack_71, if_neg (by decide), F_X1_crack_84, if_neg (by decide), L10, pk_sub hp]
      exact step p (10 - p) (by unfold alN; rw [if_neg hz]; omega) (by unfold gdN; rw [if_neg hz])
theorem cracksI {σ : gS} {K : CS} {w : Nat → Nat} {q : Nat → QD} {d p n : Nat} (hK : okK K) (hd : d < kD K) (hp : p ≤ 10) (hn : n ≤ 8) (hS : SC 10 σ K) (hw : RW (σ.1 12) (kS K) w) (hq : RQ (σ.1 13) (kS K) q) :
    ∃ τ', F_X1_crack_0 (nI d) (nI n) (nI p) σ = some τ' ∧ τ'.1 77 0 = nI (PN (WN K w q d p (kS K)) n / Nat.gcd (AN q (kS K)) (PN (WN K w q d p (kS K)) n)) ∧ τ'.1 77 1 = nI (AN q (kS K) / Nat.gcd (AN q (kS K)) (PN (WN K w q d p (kS K)) n)) ∧ CF σ τ' := by
  have key : ∀ (m j F : Nat) (h : Nat → Int32), j + m = 9 → m < F → (∀ k, k < j → h k = 0) → ∃ τ', F_X1_crack_3 F (nI d) (nI n) (nI p) (nI j) (s1 σ 78 h) = some τ' ∧ τ'.1 77 0 = nI (PN (WN K w q d p (kS K)) n / Nat.gcd (AN q (kS K)) (PN (WN K w q d p (kS K)) n)) ∧ τ'.1 77 1 = nI (AN q (kS K) / Nat.gcd (AN q (kS K)) (PN (WN K w q d p (kS K)) n)) ∧ CF σ τ' := by
    intro m
    induction m with
    | zero =>
      intro j F h hj hF hz
      obtain ⟨F, rfl⟩ : ∃ z, F = z + 1 := ⟨F - 1, by omega⟩
      rw [F_X1_crack_3, if_pos (show (9 : Int32) ≤ nI j from nI_le (a := 9) (by omega) (by omega)), bd_e, sI_s1']
      obtain ⟨τ', r1, r2, r3, r4⟩ := crack40 (w := w) (q := q) (d := d) (p := p) (n := n) hK hd hp hn (kS K) 0 fu (s1 σ 78 (upd h 0 1)) (by omega) (by have := hK.1; unfold fu; omega) (hS.keep (s1_ne (by decide)) (s1_ne (by decide)) (s1_ne (by decide)) (s1_ne (by decide))) (by rw [s1_ne (by decide)]; exact hw) (by rw [s1_ne (by decide)]; exact hq) (fun k hk => by
        rw [s1_eq]
        unfold WN
        by_cases e : k = 0
        · rw [e, upd_eq]; rfl
        · rw [upd_ne e, hz k (by omega), if_neg e]; rfl)
      exact ⟨τ', r1, r2, r3, CF.tr ⟨fun c h1 h2 => s1_ne h2, rfl⟩ r4⟩
    | succ m ih =>
      intro j F h hj hF hz
      obtain ⟨F, rfl⟩ : ∃ z, F = z + 1 := ⟨F - 1, by omega⟩
      rw [F_X1_crack_3, if_neg (show ¬ (9 : Int32) ≤ nI j from nI_ge (b := 9) (by omega) (by omega)), ck_t (inR_t (by omega) (by decide)), TN_nI (by omega), bd_e, bd_e, show nI j + 1 = nI (j + 1) from nI_1 j, sI_s1']
      refine ih (j + 1) F _ (by omega) (by omega) (fun k hk => ?_)
      by_cases e : k = j
      · rw [e, upd_eq]
      · rw [upd_ne e]; exact hz k (by omega)
  have := key 9 0 fu (σ.1 78) (by omega) (by unfold fu; omega) (fun k hk => absurd hk (by omega))
  rw [s1_id] at this
  exact this
