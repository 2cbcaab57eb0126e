/-! PURE L: cracks: the model; the step -/
theorem cr354 {τ : gS} {A P : Nat} {v : Int32} (hA : 0 < A) (hA2 : A < 2 ^ 31) (hP : P < 2 ^ 31) : ∀ (k a b F : Nat), b < 2 ^ k → a < 2 ^ 31 → b < 2 ^ 31 → 2 * k + 1 < F → Nat.gcd a b = Nat.gcd A P → F_X12_cracks_354 F v (lN A) (lN P) (lN a) (lN b) τ = some (if v = 0 then nI (P / Nat.gcd A P) else nI (A / Nat.gcd A P), τ) := by
  have hg : 0 < Nat.gcd A P := Nat.gcd_pos_of_pos_left _ hA
  have hgA : Nat.gcd A P ≤ A := Nat.gcd_le_left _ hA
  have nz : ∀ b, 0 < b → b < 2 ^ 31 → ¬ lN b = 0 := fun b h0 h => by rw [show (0 : Int64) = lN 0 from rfl, lN_eq h (by decide)]; omega
  have fin : ∀ (a F : Nat), a = Nat.gcd A P → F_X12_cracks_354 (F + 1) v (lN A) (lN P) (lN a) (lN 0) τ = some (if v = 0 then nI (P / Nat.gcd A P) else nI (A / Nat.gcd A P), τ) := by
    intro a F ha
    rw [F_X12_cracks_354, if_pos (by decide), ha]
    unfold F_X12_cracks_391
    rw [ck_t (nz _ hg (by omega)), ck_t (nz _ hg (by omega)), pk_lDiv (by omega) hg (by omega), pk_lDiv (by omega) hg (by omega), lN_i, lN_i]
    split <;> rfl
  have st : ∀ (a b F : Nat), 0 < b → b < 2 ^ 31 → a < 2 ^ 31 → F_X12_cracks_354 (F + 1) v (lN A) (lN P) (lN a) (lN b) τ = F_X12_cracks_354 F v (lN A) (lN P) (lN b) (lN (a % b)) τ := by
    intro a b F h0 hb ha
    rw [F_X12_cracks_354, if_neg (fun q => nz b h0 hb ((lgEQ0 _).mp q)), ck_t (nz b h0 hb), pk_lRem (by omega) h0 (by omega), bd_e]
  have gr : ∀ a b, Nat.gcd a b = Nat.gcd b (a % b) := fun a b => by rw [Nat.gcd_comm a b, Nat.gcd_rec b a, Nat.gcd_comm]
  intro k
  induction k with
  | zero =>
    intro a b F hb ha hb' hF hgg
    obtain ⟨F, rfl⟩ : ∃ z, F = z + 1 := ⟨F - 1, by omega⟩
    have : b = 0 := by rw [Nat.pow_zero] at hb; omega
    subst this
    exact fin a F (by rw [Nat.gcd_zero_right] at hgg; exact hgg)
  | succ k ih =>
    intro a b F hb ha hb' hF hgg
    obtain ⟨F, rfl⟩ : ∃ z, F = z + 2 := ⟨F - 2, by omega⟩
    by_cases h0 : b = 0
    · subst h0; exact fin a _ (by rw [Nat.gcd_zero_right] at hgg; exact hgg)
    · have hr := Nat.mod_lt a (show 0 < b by omega)
      rw [st a b (F + 1) (by omega) hb' ha]
      rw [gr a b] at hgg
      by_cases h1 : a % b = 0
      · rw [h1] at hgg ⊢; exact fin b _ (by rw [Nat.gcd_zero_right] at hgg; exact hgg)
      · have hr2 := Nat.mod_lt b (show 0 < a % b by omega)
        have h2 : b % (a % b) + a % b ≤ b := by
          have h3 := Nat.mod_add_div b (a % b)
          have h4 : 1 ≤ b / (a % b) := (Nat.le_div_iff_mul_le (by omega)).mpr (by omega)
          have h5 : (a % b) * 1 ≤ (a % b) * (b / (a % b)) := Nat.mul_le_mul_left _ h4
          omega
        rw [st b (a % b) F (by omega) (by omega) hb']
        rw [gr b (a % b)] at hgg
        rw [Nat.pow_succ] at hb
        exact ih (a % b) (b % (a % b)) F (by omega) (by omega) (by omega) (by omega) hgg
theorem cr321 {A : Nat} {f : Nat → Nat} {n : Nat} {v : Int32} (hA : 0 < A) (hA2 : A < 2 ^ 31) (hP : PN f n < 2 ^ 31) (hn : n ≤ 9) {τ : gS} (hf : ∀ k, k < 9 → τ.2 96 k = lN (f k)) : ∀ (m k F : Nat), k + m = 9 - n → m < F →
    F_X12_cracks_321 F v (lN A) (lN (smN k (fun k => f (n + k)))) (nI (n + k)) τ = some (if v = 0 then nI (PN f n / Nat.gcd A (PN f n)) else nI (A / Nat.gcd A (PN f n)), τ) := by
  intro m
  induction m with
  | zero =>
    intro k F hk hF
    obtain ⟨F, rfl⟩ : ∃ z, F = z + 1 := ⟨F - 1, by omega⟩
    rw [show smN k (fun k => f (n + k)) = PN f n by unfold PN; rw [show k = 9 - n by omega], F_X12_cracks_321, if_pos (show (9 : Int32) ≤ nI (n + k) from nI_le (a := 9) (by omega) (by omega))]
    exact cr354 hA hA2 hP 31 _ _ fu hA2 hP hA2 (by unfold fu; omega) (Nat.gcd_comm _ _)
  | succ m ih =>
    intro k F hk hF
    obtain ⟨F, rfl⟩ : ∃ z, F = z + 1 := ⟨F - 1, by omega⟩
    rw [F_X12_cracks_321, if_neg (show ¬ (9 : Int32) ≤ nI (n + k) from nI_ge (b := 9) (by omega) (by omega)), ck_t (inR_t (by omega) (by decide)), TN_nI (by omega), hf (n + k) (by omega), lN_add, bd_e, bd_e, show nI (n + k) + 1 = nI (n + (k + 1)) from nI_1 _]
    exact ih (k + 1) F (by omega) (by omega)
/-- one inner turn -/
theorem cr212 {τ : gS} {f : Nat → Nat} {s t : Nat} {u v : Bool} {x8 : Int32} {B G : Nat} (hB : B = (if u then 0 else s) + (if v then 0 else t)) (hG : G = (if u then s else 0) + (if v then t else 0)) (g88 : Int32 → Int32 → Int32 → Int32 → Int64 → Int32 → gS → Option (Int32 × gS)) (x1 x2 x3 x4 : Int32) (x5 : Int64) (x7 : Int32) : ∀ (j F : Nat) (h : Nat → Int64), j ≤ 9 → j < F → (∀ k, k < 9 → h k = lN (if k < j then f k else f k * B + (if k = j then 0 else if k = 0 then 0 else f (k - 1) * G))) →
    ∃ h', F_X12_cracks_212 g88 F x1 x2 x3 x4 x5 x7 x8 (bI u) (bI v) (lN t) (lN s) (nI j + (-1)) (s2 τ 96 h) = (if x8 = 0 then (F_X12_cracks_306 g88 x1 x2 x3 x4 x7 1 x5 (s2 τ 96 h')) else (F_X12_cracks_306 g88 x1 x2 x3 x4 x7 10 x5 (s2 τ 96 h'))) ∧ ∀ k, k < 9 → h' k = lN (f k * B + (if k = 0 then 0 else f (k - 1) * G)) := by
  intro j
  induction j with
  | zero =>
    intro F h hj hF hh
    obtain ⟨F, rfl⟩ : ∃ z, F = z + 1 := ⟨F - 1, by omega⟩
    refine ⟨h, ?_, fun k hk => ?_⟩
    · rw [F_X12_cracks_212, if_pos (by decide)]
    · rw [hh k hk, if_neg (by omega)]
      by_cases e : k = 0
      · rw [if_pos e, if_pos e]
      · rw [if_neg e, if_neg e]
  | succ j ih =>
    intro F h hj hF hh
    obtain ⟨F, rfl⟩ : ∃ z, F = z + 1 := ⟨F - 1, by omega⟩
    rw [nI_m1 (by omega), Nat.add_sub_cancel, F_X12_cracks_212, if_neg (nn0 (by omega))]
    have hr : inR (nI j) 10 := inR_t (by omega) (by decide)
    have hr1 : inR (nI (j + 1)) 10 := inR_t (by omega) (by decide)
    have e0 : nI j + 0 = nI j := Int32.add_zero _
    have e1 : nI j + 1 = nI (j + 1) := nI_1 j
    have t0 : (nI j).toNatClampNeg = j := TN_nI (by omega)
    have t1 : (nI (j + 1)).toNatClampNeg = j + 1 := TN_nI (by omega)
    have hhj := hh j (by omega)
    rw [if_pos (by omega)] at hhj
    have up : ∀ (g : Nat → Int64) (k : Nat) (x : Int64) (i : Nat), vp_updL g k x i = if i = k then x else g i := fun _ _ _ _ => rfl
    have nx : ∀ h1 : Nat → Int64, h1 j = lN (f j * B) → (j < 8 → h1 (j + 1) = h (j + 1) + lN (f j * G)) → (∀ k, k ≠ j → k ≠ j + 1 → h1 k = h k) → ∀ k, k < 9 → h1 k = lN (if k < j then f k else f k * B + (if k = j then 0 else if k = 0 then 0 else f (k - 1) * G)) := by
      intro h1 a b c k hk
      by_cases k1 : k = j
      · rw [k1, a, if_neg (show ¬ j < j by omega), if_pos rfl, Nat.add_zero]
      · by_cases k2 : k = j + 1
        · rw [k2, b (by omega), hh (j + 1) (by omega), if_neg (show ¬ j + 1 < j + 1 by omega), if_pos rfl, if_neg (show ¬ j + 1 < j by omega), if_neg (show ¬ j + 1 = j by omega), if_neg (show ¬ j + 1 = 0 by omega), lN_add, Nat.add_zero, Nat.add_sub_cancel]
        · rw [c k k1 k2, hh k hk]
          by_cases k3 : k < j
          · rw [if_pos (show k < j + 1 by omega), if_pos k3]
          · rw [if_neg (show ¬ k < j + 1 by omega), if_neg k3, if_neg k2, if_neg k1]
    have fin : ∀ h1 : Nat → Int64, h1 j = lN (f j * B) → (j < 8 → h1 (j + 1) = h (j + 1) + lN (f j * G)) → (∀ k, k ≠ j → k ≠ j + 1 → h1 k = h k) → ∃ h', F_X12_cracks_212 g88 F x1 x2 x3 x4 x5 x7 x8 (bI u) (bI v) (lN t) (lN s) (nI j + (-1)) (s2 τ 96 h1) = (if x8 = 0 then (F_X12_cracks_306 g88 x1 x2 x3 x4 x7 1 x5 (s2 τ 96 h')) else (F_X12_cracks_306 g88 x1 x2 x3 x4 x7 10 x5 (s2 τ 96 h'))) ∧ ∀ k, k < 9 → h' k = lN (f k * B + (if k = 0 then 0 else f (k - 1) * G)) :=
      fun h1 a b c => ih F h1 (by omega) (by omega) (nx h1 a b c)
    have z0 : ∀ x : Nat, (0 : Int64) + lN x = lN x := fun x => Int64.zero_add _
    simp only [ck_t hr, bd_e, t0, s2_eq, hhj, sJ_s2']
    cases u with
    | false =>
      rw [if_pos (show bI false = 0 from rfl)]
      simp only [F_X12_cracks_250, e0, ck_t hr, bd_e, t0, s2_eq, sJ_s2', up, lN_mul, if_true, z0]
      cases v with
      | false =>
        rw [if_pos (show bI false = 0 from rfl)]
        simp only [F_X12_cracks_276, e0, ck_t hr, bd_e, t0, s2_eq, sJ_s2', up, lN_mul, if_true, lN_add]
        rw [hB, hG] at fin ⊢
        refine fin _ ?_ (fun h8 => ?_) (fun k k1 k2 => ?_)
        · simp [up, Nat.mul_add]
        · simp [up]; rfl
        · simp [up, k1]
      | true =>
        rw [if_neg (show ¬ bI true = 0 by decide)]
        simp only [F_X12_cracks_276, e1, ck_t hr1, bd_e, t1, s2_eq, sJ_s2', up, lN_mul]
        rw [hB, hG] at fin ⊢
        refine fin _ ?_ (fun h8 => ?_) (fun k k1 k2 => ?_)
        · simp [up]
        · simp [up]
        · simp [up, k1, k2]
    | true =>
      rw [if_neg (show ¬ bI true = 0 by decide)]
      simp only [F_X12_cracks_250, e1, ck_t hr1, bd_e, t1, s2_eq, sJ_s2', up, lN_mul]
      cases v with
      | false =>
        rw [if_pos (show bI false = 0 from rfl)]
        simp only [F_X12_cracks_276, e0, ck_t hr, bd_e, t0, s2_eq, sJ_s2', up, lN_mul]
        rw [hB, hG] at fin ⊢
        refine fin _ ?_ (fun h8 => ?_) (fun k k1 k2 => ?_)
        · simp [up]
        · simp [up]
        · simp [up, k1, k2]
      | true =>
        rw [if_neg (show ¬ bI true = 0 by decide)]
        simp only [F_X12_cracks_276, e1, ck_t hr1, bd_e, t1, s2_eq, sJ_s2', up, lN_mul]
        rw [hB, hG] at fin ⊢
        refine fin _ ?_ (fun h8 => ?_) (fun k k1 k2 => ?_)
        · simp [up]; rfl
        · simp [up, Nat.mul_add, ← lN_add, Int64.add_assoc]
        · simp [up, k1, k2]
/-- the squares -/
theorem cr88 {K : CS} {w : Nat → Nat} {q : Nat → QD} {d p n : Nat} {v : Int32} (hK : okK K) (hd : d < kD K) (hp : p ≤ 10) (hn : n ≤ 8) : ∀ (m i F : Nat) (τ : gS), i + m = kS K → m < F → SM (τ.1 83) K → (∀ k, k < 32 → τ.1 86 k = τ.1 86 k) → QM (τ.1 86) (kS K) q → (∀ j, i ≤ j → j < kS K → τ.1 87 (3 * j) = nI (q j).1 ∧ τ.1 87 (3 * j + 1) = nI (q j).2.1 ∧ τ.1 87 (3 * j + 2) = nI (q j).2.2.1 ∧ τ.1 87 (24 + j) = nI (q j).2.2.2) → WM (τ.1 87) (kS K) w → (∀ k, k < 9 → τ.2 96 k = lN (WN K w q d p i k)) →
    ∃ τ', F_X12_cracks_88 F (nI d) (nI n) (nI p) v (lN (AN q i)) (nI i) τ = some (if v = 0 then nI (PN (WN K w q d p (kS K)) n / Nat.gcd (AN q (kS K)) (PN (WN K w q d p (kS K)) n)) else nI (AN q (kS K) / Nat.gcd (AN q (kS K)) (PN (WN K w q d p (kS K)) n)), τ') ∧ Ag τ τ' := by
  have h8 : kS K ≤ 8 := hK.1
  have hA8 : AN q (kS K) ≤ 10 ^ 8 := Nat.le_trans (AN_le q _) (Nat.pow_le_pow_right (by decide) h8)
  have hP : PN (WN K w q d p (kS K)) n ≤ 9 * 10 ^ 8 := Nat.le_trans (PN_le (WN_le hp _)) (Nat.mul_le_mul_left _ hA8)
  intro m
  induction m with
  | zero =>
    intro i F τ hi hF hM _ hq h87 hw hf
    obtain ⟨F, rfl⟩ : ∃ z, F = z + 1 := ⟨F - 1, by omega⟩
    have hik : i = kS K := by omega
    subst hik
    refine ⟨τ, ?_, Ag.rf τ⟩
    rw [F_X12_cracks_88, hM.1, if_pos (nI_le (by omega) (by omega))]
    exact cr321 (AN_pos q _) (by omega) (by omega) (by omega) hf (9 - n) 0 fu (by omega) (by unfold fu; omega)
  | succ m ih =>
    intro i F τ hi hF hM h86 hq h87 hw hf
    obtain ⟨F, rfl⟩ : ∃ z, F = z + 1 := ⟨F - 1, by omega⟩
    have hik : i < kS K := by omega
    obtain ⟨-, -, -, q4, qo⟩ := hq i hik
    have hq3 := qo.2.2.2
    obtain ⟨a1, a2, a3, a4⟩ := h87 i (Nat.le_refl _) hik
    obtain ⟨hwi, hw7⟩ := hw i hik
    have hr24 : inR (nI (24 + i)) 40 := inR_t (by omega) (by decide)
    rw [F_X12_cracks_88, hM.1, if_neg (nI_ge (by omega) (by omega)), L24, nI_add, ck_t hr24, TN_nI (by omega), q4]
    -- behind both baths
    have tail : ∀ (s t : Nat) (u vv : Bool) (x8 : Int32) (g : Nat → Int32) (Q : QD), (∀ j, i + 1 ≤ j → j < kS K → g (3 * j) = nI (q j).1 ∧ g (3 * j + 1) = nI (q j).2.1 ∧ g (3 * j + 2) = nI (q j).2.2.1 ∧ g (24 + j) = nI (q j).2.2.2) → WM g (kS K) w → lN (AN q i) * (if x8 = 0 then 1 else 10) = lN (AN q (i + 1)) → (if u then 0 else s) + (if vv then 0 else t) = alN q i - gdN K w q d p i → (if u then s else 0) + (if vv then t else 0) = gdN K w q d p i → ∃ τ', F_X12_cracks_206 (F_X12_cracks_88 F) (nI d) (nI n) (nI p) v (lN (AN q i)) (nI i) x8 (bI u) (bI vv) (lN t) (lN s) (s1 τ 87 g) = some (if v = 0 then nI (PN (WN K w q d p (kS K)) n / Nat.gcd (AN q (kS K)) (PN (WN K w q d p (kS K)) n)) else nI (AN q (kS K) / Nat.gcd (AN q (kS K)) (PN (WN K w q d p (kS K)) n)), τ') ∧ Ag τ τ' := by
      intro s t u vv x8 g Q hg hwg hA hB hG
      unfold F_X12_cracks_206
      obtain ⟨h', r1, r2⟩ := cr212 (τ := s1 τ 87 g) (f := WN K w q d p i) (s := s) (t := t) (u := u) (v := vv) (x8 := x8) hB.symm hG.symm (F_X12_cracks_88 F) (nI d) (nI n) (nI p) v (lN (AN q i)) (nI i) 9 fu (τ.2 96) (by omega) (by unfold fu; omega) (fun k hk => by rw [if_pos hk]; exact hf k hk)
      have e8 : nI 9 + (-1) = (8 : Int32) := by decide
      rw [e8] at r1
      have es : s2 (s1 τ 87 g) 96 (τ.2 96) = s1 τ 87 g := s2_id (s1 τ 87 g) 96
      rw [es] at r1
      rw [r1]
      let υ := s2 (s1 τ 87 g) 96 h'
      obtain ⟨τ', z1, z2⟩ := ih (i + 1) F υ (by omega) (by omega) hM (fun _ _ => rfl) hq (fun j h1 h2 => by show (s1 τ 87 g).1 87 _ = _ ∧ (s1 τ 87 g).1 87 _ = _ ∧ (s1 τ 87 g).1 87 _ = _ ∧ (s1 τ 87 g).1 87 _ = _; rw [s1_eq]; exact hg j h1 h2) (by show WM ((s1 τ 87 g).1 87) _ _; rw [s1_eq]; exact hwg) (fun k hk => by
        show (s2 (s1 τ 87 g) 96 h').2 96 k = _
        rw [s2_eq, r2 k hk]; rfl)
      refine ⟨τ', ?_, ((Ag_s1 (by decide)).tr (Ag_s2 (by decide))).tr z2⟩
      unfold F_X12_cracks_306
      simp only [bd_e]
      rw [← z1, ← hA, show nI i + 1 = nI (i + 1) from nI_1 i]
      split <;> rfl
    have bath : ∀ Q : QD, okQ Q → F_X12_bathes_0 87 (nI i) (nI d) (s1 τ 87 (pq (τ.1 87) i Q)) = some (s1 τ 87 (pq (τ.1 87) i (afQ K i d Q))) := by
      intro Q hQ
      obtain ⟨p1, p2, p3, p4⟩ := pq_at (τ.1 87) (show i < 8 by omega) Q
      rw [bathM (σ := s1 τ 87 (pq (τ.1 87) i Q)) (q := Q) (by rw [s1_ne (by decide)]; exact hM) hK (by decide) hik hd hQ (by rw [s1_eq]; exact p1) (by rw [s1_eq]; exact p2) (by rw [s1_eq]; exact p3) (by rw [s1_eq]; exact p4), s1_eq, s1_s1, pq_pq]
    have rt : ∀ Q : QD, okQ Q → F_X12_isRight_0 87 (nI i) (s1 τ 87 (pq (τ.1 87) i Q)) = some (bI (decide (hueQ Q = w i))) := by
      intro Q hQ
      obtain ⟨p1, p2, p3, p4⟩ := pq_at (τ.1 87) (show i < 8 by omega) Q
      rw [rightM (σ := s1 τ 87 (pq (τ.1 87) i Q)) (q := Q) (w := w i) (by omega) (by rw [s1_eq]; exact p1) (by rw [s1_eq]; exact p2) (by rw [s1_eq]; exact p3) hQ (by rw [s1_eq, pq_hi (by omega) (by omega)]; exact hwi) hw7]
      unfold bI
      simp
    have zr : ∀ Q : QD, sI (s1 τ 87 (pq (τ.1 87) i Q)) 87 (24 + i) 0 = s1 τ 87 (pq (τ.1 87) i (Q.1, Q.2.1, Q.2.2.1, 0)) := by
      intro Q
      obtain ⟨p1, p2, p3, p4⟩ := pq_at (τ.1 87) (show i < 8 by omega) Q
      rw [sI_s1', show (0 : Int32) = nI 0 from rfl, updw (by omega) p1 p2 p3, pq_pq]
    have hτ : s1 τ 87 (pq (τ.1 87) i (q i)) = τ := by rw [pq_id a1 a2 a3 a4, s1_id]
    have hg : ∀ Q : QD, ∀ j, i + 1 ≤ j → j < kS K → pq (τ.1 87) i Q (3 * j) = nI (q j).1 ∧ pq (τ.1 87) i Q (3 * j + 1) = nI (q j).2.1 ∧ pq (τ.1 87) i Q (3 * j + 2) = nI (q j).2.2.1 ∧ pq (τ.1 87) i Q (24 + j) = nI (q j).2.2.2 := by
      intro Q j h1 h2
      obtain ⟨p1, p2, p3, p4⟩ := pq_ot (f := τ.1 87) (q := Q) (show i < 8 by omega) (show j < 8 by omega) (by omega)
      rw [p1, p2, p3, p4]; exact h87 j (by omega) h2
    have hwg : ∀ Q : QD, WM (pq (τ.1 87) i Q) (kS K) w := fun Q j hj => by rw [pq_hi (by omega) (by omega)]; exact hw j hj
    have hle := gdN_le (K := K) (w := w) (q := q) (d := d) (i := i) hp
    by_cases hz : (q i).2.2.2 = 0
    · rw [hz, if_pos (show nI 0 ≤ (0 : Int32) by decide), F_X12_cracks_117]
      have b1 := bath (q i) qo
      rw [hτ] at b1
      have haf : afQ K i d (q i) = dyQ K i d (q i) := by unfold afQ; have := hK.2.1; rw [if_pos (by omega), if_pos hz]
      rw [haf] at b1
      have okd : okQ ((dyQ K i d (q i)).1, (dyQ K i d (q i)).2.1, (dyQ K i d (q i)).2.2.1, 0) := ⟨(dyQ_ok qo).1, (dyQ_ok qo).2.1, (dyQ_ok qo).2.2.1, Nat.zero_le _⟩
      rw [b1, ob_s, rt _ (dyQ_ok qo), ob_s, L24, nI_add, ck_t hr24, TN_nI (by omega), bd_e, zr, if_pos rfl, F_X12_cracks_168, rt _ okd, ob_s, if_pos rfl, F_X12_cracks_190, if_pos rfl]
      have hal : alN q i = 1 := by unfold alN; rw [if_pos hz]
      have hgd : gdN K w q d p i = if hueQ (dyQ K i d (q i)) = w i then 1 else 0 := by unfold gdN; rw [if_pos hz]
      refine tail 1 0 _ _ 0 _ (q i) (hg _) (hwg _) ?_ ?_ ?_
      · show lN (AN q i) * 1 = lN (AN q i * alN q i)
        rw [hal, Int64.mul_one, Nat.mul_one]
      · rw [hal, hgd]
        by_cases e : hueQ (dyQ K i d (q i)) = w i
        · simp [e]
        · simp [e]
      · rw [hgd]
        by_cases e : hueQ (dyQ K i d (q i)) = w i
        · simp [e]
        · simp [e]
    · rw [if_neg (show ¬ nI (q i).2.2.2 ≤ (0 : Int32) from nI_ge (a := 0) (by omega) (by omega)), F_X12_cracks_117]
      have b1 := bath (q i) qo
      rw [hτ] at b1
      have haf : afQ K i d (q i) = ((q i).1, (q i).2.1, (q i).2.2.1, (q i).2.2.2 - crN (kK K i)) := by unfold afQ; have := hK.2.1; rw [if_pos (by omega), if_neg hz]
      have ok1 := afQ_ok (K := K) (i := i) (d := d) qo
      rw [haf] at b1 ok1
      have ok0 : okQ ((q i).1, (q i).2.1, (q i).2.2.1, 0) := ⟨qo.1, qo.2.1, qo.2.2.1, Nat.zero_le _⟩
      have haf0 : afQ K i d ((q i).1, (q i).2.1, (q i).2.2.1, 0) = dyQ K i d ((q i).1, (q i).2.1, (q i).2.2.1, 0) := by unfold afQ; have := hK.2.1; rw [if_pos (by omega), if_pos rfl]
      rw [b1, ob_s, rt _ ok1, ob_s, L24, nI_add, ck_t hr24, TN_nI (by omega), bd_e, zr, if_neg (by decide), bath _ ok0, haf0, ob_s, F_X12_cracks_168, rt _ (dyQ_ok ok0), ob_s, if_neg (by decide), F_X12_cracks_190, if_neg (by decide), L10, pk_sub hp, nI_l (by omega), nI_l (by omega)]
      have hal : alN q i = 10 := by unfold alN; rw [if_neg hz]
      have hgd : gdN K w q d p i = (if hueQ (dyQ K i d (q i)) = w i then p else 0) + (if hueQ (q i) = w i then 10 - p else 0) := by unfold gdN; rw [if_neg hz]
      refine tail (10 - p) p (decide (hueQ (q i) = w i)) (decide (hueQ (dyQ K i d (q i)) = w i)) 1 _ (q i) (hg _) (hwg _) ?_ ?_ ?_
      · show lN (AN q i) * 10 = lN (AN q i * alN q i)
        rw [hal]; exact lN_mul _ 10
      · rw [hal, hgd]
        by_cases e : hueQ (dyQ K i d (q i)) = w i <;> by_cases e2 : hueQ (q i) = w i <;> simp [e, e2] <;> omega
      · rw [hgd]
        by_cases e : hueQ (dyQ K i d (q i)) = w i <;> by_cases e2 : hueQ (q i) = w i <;> simp [e, e2] <;> omega
theorem cr48 {σ : gS} {K : CS} {w : Nat → Nat} {q : Nat → QD} {d p n : Nat} {v : Int32} (hK : okK K) (hd : d < kD K) (hp : p ≤ 10) (hn : n ≤ 8) (hM : SM (σ.1 83) K) (hw : WM (σ.1 86) (kS K) w) (hq : QM (σ.1 86) (kS K) q) :
    ∃ τ', F_X12_cracks_48 fu (nI d) (nI n) (nI p) v 0 σ = some (if v = 0 then nI (PN (WN K w q d p (kS K)) n / Nat.gcd (AN q (kS K)) (PN (WN K w q d p (kS K)) n)) else nI (AN q (kS K) / Nat.gcd (AN q (kS K)) (PN (WN K w q d p (kS K)) n)), τ') ∧ Ag σ τ' := by
  have h8 : kS K ≤ 8 := hK.1
  have key : ∀ (m j F : Nat) (h : Nat → Int64), j + m = 10 → m < F → (∀ k, k < j → h k = lN (if k = 0 then 1 else 0)) → ∃ τ', F_X12_cracks_48 F (nI d) (nI n) (nI p) v (nI j) (s2 σ 96 h) = some (if v = 0 then nI (PN (WN K w q d p (kS K)) n / Nat.gcd (AN q (kS K)) (PN (WN K w q d p (kS K)) n)) else nI (AN q (kS K) / Nat.gcd (AN q (kS K)) (PN (WN K w q d p (kS K)) n)), τ') ∧ Ag σ τ' := by
    intro m
    induction m with
    | zero =>
      intro j F h hj hF hz
      obtain ⟨F, rfl⟩ : ∃ z, F = z + 1 := ⟨F - 1, by omega⟩
      rw [F_X12_cracks_48, if_pos (show (10 : Int32) ≤ nI j from nI_le (a := 10) (by omega) (by omega)), asideM, ob_s]
      let υ := s1 (s2 σ 96 h) 87 (va_cpy (σ.1 86) (σ.1 87) 0 0 40)
      have at87 : ∀ k, k < 40 → υ.1 87 k = σ.1 86 k := fun k hk => by
        show (s1 (s2 σ 96 h) 87 _).1 87 k = _
        rw [s1_eq]; exact aside_at σ hk
      obtain ⟨τ', r1, r2⟩ := cr88 (K := K) (w := w) (q := q) (d := d) (p := p) (n := n) (v := v) hK hd hp hn (kS K) 0 fu υ (by omega) (by unfold fu; omega) hM (fun _ _ => rfl) hq (fun k h1 h2 => by
        rw [at87 _ (by omega), at87 _ (by omega), at87 _ (by omega), at87 _ (by omega)]
        obtain ⟨x1, x2, x3, x4, -⟩ := hq k h2
        exact ⟨x1, x2, x3, x4⟩) (fun k hk => by rw [at87 _ (by omega)]; exact hw k hk) (fun k hk => by
        show (s2 σ 96 h).2 96 k = _
        rw [s2_eq, hz k (by omega)]; rfl)
      exact ⟨τ', r1, ((Ag_s2 (by decide)).tr (Ag_s1 (by decide))).tr r2⟩
    | succ m ih =>
      intro j F h hj hF hz
      obtain ⟨F, rfl⟩ : ∃ z, F = z + 1 := ⟨F - 1, by omega⟩
      rw [F_X12_cracks_48, if_neg (show ¬ (10 : Int32) ≤ nI j from nI_ge (b := 10) (by omega) (by omega)), if_nI_z (by omega)]
      have st : ∀ y : Int64, y = lN (if j = 0 then 1 else 0) → F_X12_cracks_71 (F_X12_cracks_48 F) (nI d) (nI n) (nI p) v (nI j) y (nI j) (s2 σ 96 h) = F_X12_cracks_48 F (nI d) (nI n) (nI p) v (nI (j + 1)) (s2 σ 96 (vp_updL h j (lN (if j = 0 then 1 else 0)))) := by
        intro y hy
        rw [F_X12_cracks_71, ck_t (inR_t (by omega) (by decide)), TN_nI (by omega), bd_e, bd_e, show nI j + 1 = nI (j + 1) from nI_1 j, sJ_s2', hy]
      have nx := ih (j + 1) F (vp_updL h j (lN (if j = 0 then 1 else 0))) (by omega) (by omega) (fun k hk => by
        unfold vp_updL
        by_cases e : k = j
        · rw [if_pos e, e]
        · rw [if_neg e]; exact hz k (by omega))
      by_cases e : j = 0
      · rw [if_pos e, st 1 (by rw [if_pos e]; rfl)]; exact nx
      · rw [if_neg e, st 0 (by rw [if_neg e]; rfl)]; exact nx
  have := key 10 0 fu (σ.2 96) (by omega) (by unfold fu; omega) (fun k hk => absurd hk (by omega))
  rw [s2_id] at this
  exact this
theorem step_cracks {σ : gS} (hI : Inv σ) (x1 x2 x3 x4 : Int32) : ∃ r σ1 σ2, F_X11_cracks_0 x1 x2 x3 x4 σ = some (r, σ1) ∧ F_X12_cracks_0 x1 x2 x3 x4 σ1 = some (r, σ2) ∧ Inv σ2 := by
  obtain ⟨⟨K, w, q, m, ⟨hK, hS, hw, hq, hM, hwM, hqM, -, -, -⟩, -⟩, -⟩ := id hI
  have h4 : kD K ≤ 4 := hK.2.1
  have le_i : ∀ (x : Int32) (k : Nat), k < 2 ^ 31 → (x ≤ nI k ↔ x.toInt ≤ k) := fun x k h => by rw [Int32.le_iff_toInt_le, nI_toInt h]
  have c8 : ∀ x : Int32, x ≤ 8 ↔ x.toInt ≤ 8 := fun x => le_i x 8 (by decide)
  have c1 : ∀ x : Int32, x ≤ 1 ↔ x.toInt ≤ 1 := fun x => le_i x 1 (by decide)
  have c10 : ∀ x : Int32, 10 < x ↔ 10 < x.toInt := fun x => by rw [Int32.lt_iff_toInt_lt]; exact Iff.rfl
  by_cases hv : (0 ≤ x1.toInt ∧ x1.toInt < (kD K : Nat)) ∧ (0 ≤ x2.toInt ∧ x2.toInt ≤ 8) ∧ (0 ≤ x3.toInt ∧ x3.toInt ≤ 10) ∧ (0 ≤ x4.toInt ∧ x4.toInt ≤ 1)
  · obtain ⟨v1, v2, v3, v4⟩ := hv
    obtain ⟨d, hd, rfl⟩ := of_rng v1 (by omega)
    obtain ⟨n, hn, rfl⟩ := of_rng (x := x2) (n := 9) (by omega) (by decide)
    obtain ⟨p, hp, rfl⟩ := of_rng (x := x3) (n := 11) (by omega) (by decide)
    obtain ⟨τ, r1, r2, r3, r4⟩ := cracksI (d := d) (p := p) (n := n) hK hd (by omega) (by omega) hS hw hq
    have hMτ : SM (τ.1 83) K := by rw [r4.1 83 (by decide) (by decide)]; exact hM
    obtain ⟨τ', z1, z2⟩ := cr48 (σ := τ) (d := d) (p := p) (n := n) (v := x4) hK hd (by omega) (by omega) hMτ (by rw [r4.1 86 (by decide) (by decide)]; exact hwM) (by rw [r4.1 86 (by decide) (by decide)]; exact hqM)
    have md := z1.symm.trans (Eq.symm (show F_X12_cracks_0 (nI d) (nI n) (nI p) x4 τ = F_X12_cracks_48 fu (nI d) (nI n) (nI p) x4 0 τ from by
      unfold F_X12_cracks_0
      rw [idyM hMτ.2.1 (by omega), ob_s, if_bP, if_pos v1, inL _ 0 8 (p := 0) (q := 8) rfl rfl, if_bP, if_pos v2, inL _ 0 10 (p := 0) (q := 10) rfl rfl, if_bP, if_pos v3, inL _ 0 1 (p := 0) (q := 1) rfl rfl, if_bP, if_pos v4]))
    refine ⟨_, τ, τ', ?_, md.symm, hI.keep (r4.ag.tr z2)⟩
    unfold F_X11_cracks_0
    rw [hdyI hS.2.1 (by omega), if_bP, if_pos v1, if_neg (by rw [lt0]; omega), if_pos ((c8 _).mpr v2.2), if_neg (by rw [lt0]; omega), if_neg (by rw [c10]; omega), if_neg (by rw [lt0]; omega), if_pos ((c1 _).mpr v4.2), r1, ob_s, r2, r3]
    split <;> rfl
  · refine ⟨-1, σ, σ, ?_, ?_, hI⟩
    · unfold F_X11_cracks_0
      rw [hdyI hS.2.1 (by omega), if_bP]
      by_cases d1 : 0 ≤ x1.toInt ∧ x1.toInt < (kD K : Nat)
      · rw [if_pos d1]
        by_cases d2 : x2 < 0
        · rw [if_pos d2]
        · rw [if_neg d2]
          by_cases d3 : x2 ≤ 8
          · rw [if_pos d3]
            by_cases d4 : x3 < 0
            · rw [if_pos d4]
            · rw [if_neg d4]
              by_cases d5 : 10 < x3
              · rw [if_pos d5]
              · rw [if_neg d5]
                by_cases d6 : x4 < 0
                · rw [if_pos d6]
                · rw [if_neg d6]
                  by_cases d7 : x4 ≤ 1
                  · rw [lt0] at d2 d4 d6
                    rw [c8] at d3
                    rw [c10] at d5
                    rw [c1] at d7
                    exact absurd ⟨d1, by omega, by omega, by omega⟩ hv
                  · rw [if_neg d7]
          · rw [if_neg d3]
      · rw [if_neg d1]
    · unfold F_X12_cracks_0
      rw [idyM hM.2.1 (by omega), ob_s, if_bP, inL _ 0 8 (p := 0) (q := 8) rfl rfl, if_bP, inL _ 0 10 (p := 0) (q := 10) rfl rfl, if_bP, inL _ 0 1 (p := 0) (q := 1) rfl rfl, if_bP]
      by_cases d1 : 0 ≤ x1.toInt ∧ x1.toInt < (kD K : Nat)
      · rw [if_pos d1]
        by_cases d2 : 0 ≤ x2.toInt ∧ x2.toInt ≤ 8
        · rw [if_pos d2]
          by_cases d3 : 0 ≤ x3.toInt ∧ x3.toInt ≤ 10
          · rw [if_pos d3, if_neg (fun d4 => hv ⟨d1, d2, d3, d4⟩)]
          · rw [if_neg d3]
        · rw [if_neg d2]
      · rw [if_neg d1]
