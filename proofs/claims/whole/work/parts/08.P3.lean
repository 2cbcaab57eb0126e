/-! PURE 3: apply; the reference's squares -/
def pcN (m : Nat) : Nat := m % 2 + m / 2 % 2 + m / 4 % 2 + m / 8 % 2 + m / 16 % 2 + m / 32 % 2 + m / 64 % 2 + m / 128 % 2
theorem bitcI : ∀ m, m < 256 → F_J6_bitCount_0f7a4_0 (nI m) = nI (pcN m) := by decide +kernel
theorem bitsM : ∀ m, m < 256 → F_X12_bits_0 (nI m) = some (nI (pcN m)) := by decide +kernel
theorem rs_256 {n : Nat} (p : Nat → Bool) (h : n ≤ 8) : rsN n p < 256 := Nat.lt_of_lt_of_le (rsN_lt n p) (Nat.pow_le_pow_right (by decide) h)
def rcN (n : Nat) (p : Nat → Bool) : Nat := pcN (rsN n p)
theorem rightCountI {σ : gS} {K : CS} {c : Nat} {w : Nat → Nat} {q : Nat → QD} (hS : SC 10 σ K) (hK : okK K) (hw : RW (σ.1 12) (kS K) w) (hq : RQ (σ.1 c) (kS K) q) :
    F_X2_rightCount_0 c σ = some (nI (rcN (kS K) (fun i => decide (hueQ (q i) = w i)))) := by
  unfold F_X2_rightCount_0
  rw [rightSetI hS hK hw hq, ob_s, bitcI _ (rs_256 _ hK.1)]
  rfl
def bI (b : Bool) : Int32 := if b then 1 else 0
theorem bI_or (a b : Bool) : bI a ||| bI b = bI (a || b) := by cases a <;> cases b <;> rfl
theorem bI_nb (a : Bool) : nb (bI a) := by cases a <;> decide
def anyb : Nat → (Nat → Bool) → Bool
  | 0, _ => false
  | n + 1, p => anyb n p || p n
theorem cd_inj {a b : QD} (ha : okQ a) (hb : okQ b) (h : cd a = cd b) : a = b := by
  obtain ⟨a1, a2, a3, a4⟩ := a
  obtain ⟨b1, b2, b3, b4⟩ := b
  unfold okQ at ha hb
  unfold cd at h
  simp only at ha hb h
  have e1 : a1 = b1 := by omega
  have e2 : a2 = b2 := by omega
  have e3 : a3 = b3 := by omega
  have e4 : a4 = b4 := by omega
  rw [e1, e2, e3, e4]
theorem sI_s1' (σ : gS) (c : Nat) (g : Nat → Int32) (k : Nat) (v : Int32) : sI (s1 σ c g) c k v = s1 σ c (upd g k v) := by
  rw [sI_s1, s1_eq, s1_s1]
theorem sJ_s2' (σ : gS) (c : Nat) (g : Nat → Int64) (k : Nat) (v : Int64) : sJ (s2 σ c g) c k v = s2 σ c (vp_updL g k v) := by
  rw [sJ_s2, s2_eq, s2_s2]
def apR (f : Nat → Int32) (K : CS) (d : Nat) (q : Nat → QD) (i : Nat) : Nat → Int32 := fun k => if k < i then nI (cd (afQ K k d (q k))) else f k
theorem apR_0 (f : Nat → Int32) (K : CS) (d : Nat) (q : Nat → QD) : apR f K d q 0 = f := by
  funext k; unfold apR; rw [if_neg (by omega)]
theorem apR_s (f : Nat → Int32) (K : CS) (d : Nat) (q : Nat → QD) (i : Nat) : upd (apR f K d q i) i (nI (cd (afQ K i d (q i)))) = apR f K d q (i + 1) := by
  funext k
  unfold upd apR
  by_cases h : k = i
  · subst h; simp
  · by_cases h2 : k < i
    · simp [h, h2, show k < i + 1 by omega]
    · simp [h, h2, show ¬ k < i + 1 by omega]
theorem apR_RQ {f : Nat → Int32} {K : CS} {d : Nat} {q : Nat → QD} {n : Nat} (h : ∀ i, i < n → okQ (q i)) : RQ (apR f K d q n) n (fun k => afQ K k d (q k)) := by
  intro i hi
  refine ⟨?_, afQ_ok (h i hi)⟩
  unfold apR; rw [if_pos hi]
theorem applyI {σ : gS} {K : CS} {c2 c3 d : Nat} {q : Nat → QD} (hS : SC 10 σ K) (hK : okK K) (hq : RQ (σ.1 c2) (kS K) q) (hd : okD K d) (h10 : c3 ≠ 10) (h11 : c3 ≠ 11) (h14 : c3 ≠ 14) (h15 : c3 ≠ 15) :
    F_X2_apply_0 c2 c3 (nI d) σ = some (bI (anyb (kS K) (fun k => decide (afQ K k d (q k) ≠ q k))), s1 σ c3 (apR (σ.1 c3) K d q (kS K))) := by
  have h8 : kS K ≤ 8 := hK.1
  have key : ∀ (m i n : Nat), i + m = kS K → m < n → F_X2_apply_6 c2 c3 n (nI d) (bI (anyb i (fun k => decide (afQ K k d (q k) ≠ q k)))) (nI i) (s1 σ c3 (apR (σ.1 c3) K d q i)) = some (bI (anyb (kS K) (fun k => decide (afQ K k d (q k) ≠ q k))), s1 σ c3 (apR (σ.1 c3) K d q (kS K))) := by
    intro m
    induction m with
    | zero =>
      intro i n hi hn
      obtain ⟨n, rfl⟩ : ∃ k, n = k + 1 := ⟨n - 1, by omega⟩
      rw [F_X2_apply_6, s1_ne (Ne.symm h10), hS.1, if_pos (nI_le (by omega) (by omega)), ck_t (bI_nb _), show i = kS K by omega]
    | succ m ih =>
      intro i n hi hn
      obtain ⟨n, rfl⟩ : ∃ k, n = k + 1 := ⟨n - 1, by omega⟩
      have hi' : i < kS K := by omega
      have hr : inR (nI i) 8 := inR_t (by omega) (by decide)
      have hS' : SC 10 (s1 σ c3 (apR (σ.1 c3) K d q i)) K := hS.keep (s1_ne (Ne.symm h10)) (s1_ne (Ne.symm h11)) (s1_ne (Ne.symm h14)) (s1_ne (Ne.symm h15))
      have hold : (s1 σ c3 (apR (σ.1 c3) K d q i)).1 c2 i = nI (cd (q i)) := by
        rw [s1_1]
        by_cases hc : c2 = c3
        · rw [if_pos hc, ← (hq i hi').1, hc]; unfold apR; rw [if_neg (by omega)]
        · rw [if_neg hc]; exact (hq i hi').1
      rw [F_X2_apply_6, s1_ne (Ne.symm h10), hS.1, if_neg (nI_ge hi' (by omega))]
      simp only [ck_t hr]
      rw [TN_nI (by omega), hold, bd_e, afterI hS' hK hi' hd (hq i hi').2, ob_s, sI_s1', apR_s, bd_e, s1_eq]
      have e : apR (σ.1 c3) K d q (i + 1) i = nI (cd (afQ K i d (q i))) := by unfold apR; rw [if_pos (by omega)]
      rw [e]
      have h := ih (i + 1) n (by omega) (by omega)
      simp only [F_X2_apply_50, bd_e]
      rw [show nI i + 1 = nI (i + 1) from nI_1 i]
      have ok1 := (hq i hi').2
      have ok2 := afQ_ok (K := K) (i := i) (d := d) ok1
      have l1 := cd_lt ok1
      have l2 := cd_lt ok2
      rw [if_nI_eq (by omega) (by omega)]
      by_cases hc : cd (afQ K i d (q i)) = cd (q i)
      · have hc' := cd_inj ok2 ok1 hc
        rw [if_pos hc]
        have e2 : bI (anyb i (fun k => decide (afQ K k d (q k) ≠ q k))) ||| 0 = bI (anyb (i + 1) (fun k => decide (afQ K k d (q k) ≠ q k))) := by
          rw [show (0 : Int32) = bI false from rfl, bI_or, anyb]; simp [hc']
        rw [e2]; exact h
      · have hc' : afQ K i d (q i) ≠ q i := fun z => hc (by rw [z])
        rw [if_neg hc]
        have e2 : bI (anyb i (fun k => decide (afQ K k d (q k) ≠ q k))) ||| 1 = bI (anyb (i + 1) (fun k => decide (afQ K k d (q k) ≠ q k))) := by
          rw [show (1 : Int32) = bI true from rfl, bI_or, anyb]; simp [hc']
        rw [e2]; exact h
  have := key (kS K) 0 fu (by omega) (by unfold fu; omega)
  rw [apR_0, s1_id] at this
  exact this
/-! the reference -/
def QM (f : Nat → Int32) (n : Nat) (q : Nat → QD) : Prop := ∀ i, i < n → f (3 * i) = nI (q i).1 ∧ f (3 * i + 1) = nI (q i).2.1 ∧ f (3 * i + 2) = nI (q i).2.2.1 ∧ f (24 + i) = nI (q i).2.2.2 ∧ okQ (q i)
theorem QM.c {f : Nat → Int32} {n : Nat} {q : Nat → QD} (h : QM f n q) {i j : Nat} (hi : i < n) (hj : j < 3) : f (3 * i + j) = nI (cp (q i) j) := by
  obtain ⟨h1, h2, h3, h4, h5⟩ := h i hi
  have h3' : j = 0 ∨ j = 1 ∨ j = 2 := by omega
  rcases h3' with rfl | rfl | rfl
  · exact h1
  · exact h2
  · exact h3
theorem ix3 (i j : Nat) : ((0 : Int32) + (3 * nI i)) + nI j = nI (3 * i + j) := by
  rw [L0, L3, pk_mul, nI_add, nI_add, Nat.zero_add]
theorem hueM {σ : gS} {c i : Nat} {q : QD} (hi : i < 8) (h1 : σ.1 c (3 * i) = nI q.1) (h2 : σ.1 c (3 * i + 1) = nI q.2.1) (h3 : σ.1 c (3 * i + 2) = nI q.2.2.1) (hq : okQ q) : F_X12_hueOf_0 c (nI i) σ = some (nI (hueQ q)) := by
  have hcj : ∀ j, j < 3 → σ.1 c (3 * i + j) = nI (cp q j) := by
    intro j hj
    have h3' : j = 0 ∨ j = 1 ∨ j = 2 := by omega
    rcases h3' with rfl | rfl | rfl
    · exact h1
    · exact h2
    · exact h3
  have hc9 : ∀ j, cp q j ≤ 9 := by intro j; unfold cp; obtain ⟨k1, k2, k3, k4⟩ := hq; split <;> (try split) <;> omega
  have st1 : ∀ (n j m : Nat), j < 3 → m ≤ 9 → F_X12_hueOf_4 c (n + 1) (nI i) (nI m) (nI j) σ = F_X12_hueOf_4 c n (nI i) (nI (max m (cp q j))) (nI (j + 1)) σ := by
    intro n j m hj hm
    have := hc9 j
    rw [F_X12_hueOf_4, if_neg (by rw [L3]; exact nI_ge (by omega) (by decide)), ix3, ck_t (inR_t (by omega) (by decide)), TN_nI (by omega), hcj j hj, bd_e]
    simp only [F_X12_hueOf_32, bd_e]
    rw [if_nI_le (by omega) (by omega), show nI j + 1 = nI (j + 1) from nI_1 j]
    by_cases hx : cp q j ≤ m
    · rw [if_pos hx, Nat.max_eq_left hx]
    · rw [if_neg hx, Nat.max_eq_right (by omega)]
  have st2 : ∀ (n j m s : Nat), j < 3 → m ≤ 9 → F_X12_hueOf_44 c (n + 1) (nI i) (nI m) (nI s) (nI j) σ = F_X12_hueOf_44 c n (nI i) (nI m) (if 0 < cp q j ∧ m ≤ 2 * cp q j then nI s ||| nI (2 ^ j) else nI s) (nI (j + 1)) σ := by
    intro n j m s hj hm
    have := hc9 j
    rw [F_X12_hueOf_44, if_neg (by rw [L3]; exact nI_ge (by omega) (by decide)), ix3, ck_t (inR_t (by omega) (by decide)), TN_nI (by omega), hcj j hj, bd_e]
    simp only [F_X12_hueOf_83, F_X12_hueOf_84, bd_e]
    rw [shl1 j (by omega), show nI j + 1 = nI (j + 1) from nI_1 j, L2, pk_mul, if_nI_lt (by omega) (by omega)]
    by_cases c1 : cp q j ≤ 0
    · rw [if_pos (by rw [L0]; exact nI_le c1 (by decide)), if_neg (by omega)]
      congr 1
      rw [L0, nI_or, Nat.or_zero]
    · rw [if_neg (by rw [L0]; exact nI_ge (by omega) (by omega))]
      by_cases c2 : 2 * cp q j < m
      · rw [if_pos c2, if_neg (by omega)]
        congr 1
        rw [L0, nI_or, Nat.or_zero]
      · rw [if_neg c2, if_pos (by omega)]
  unfold F_X12_hueOf_0
  rw [fu_s 4]
  show F_X12_hueOf_4 c (19996 + 4) (nI i) (nI 0) (nI 0) σ = _
  have g0 := hc9 0
  have g1 := hc9 1
  have g2 := hc9 2
  rw [st1 _ 0 0 (by decide) (by decide), st1 _ 1 _ (by decide) (by omega), st1 _ 2 _ (by decide) (by omega), F_X12_hueOf_4, if_pos (by decide)]
  have em : max (max (max 0 (cp q 0)) (cp q 1)) (cp q 2) = max q.1 (max q.2.1 q.2.2.1) := by
    show max (max (max 0 q.1) q.2.1) q.2.2.1 = _
    omega
  rw [em]
  unfold hueQ hueN
  generalize hm : max q.1 (max q.2.1 q.2.2.1) = m
  have hm9 : m ≤ 9 := by
    obtain ⟨k1, k2, k3, k4⟩ := hq
    omega
  rw [fu_s 4]
  show F_X12_hueOf_44 c (19996 + 4) (nI i) (nI m) (nI 0) (nI 0) σ = _
  rw [st2 _ 0 m 0 (by decide) hm9]
  have hb : ∀ (P : Prop) [Decidable P], (if P then nI 0 ||| nI (2 ^ 0) else nI 0) = nI (if P then 1 else 0) := by
    intro P _; split <;> rfl
  rw [hb]
  have e0 : cp q 0 = q.1 := rfl
  have e1 : cp q 1 = q.2.1 := rfl
  have e2 : cp q 2 = q.2.2.1 := rfl
  rw [e0]
  generalize hs : (if 0 < q.1 ∧ m ≤ 2 * q.1 then 1 else 0) = s
  have hs1 : s < 2 := by rw [← hs]; split <;> omega
  rw [st2 _ 1 m s (by decide) hm9, e1]
  have hb2 : (if 0 < q.2.1 ∧ m ≤ 2 * q.2.1 then nI s ||| nI (2 ^ 1) else nI s) = nI (s + if 0 < q.2.1 ∧ m ≤ 2 * q.2.1 then 2 else 0) := by
    split
    · have : s = 0 ∨ s = 1 := by omega
      rcases this with rfl | rfl <;> rfl
    · rfl
  rw [hb2]
  generalize ht : (s + if 0 < q.2.1 ∧ m ≤ 2 * q.2.1 then 2 else 0) = t
  have ht1 : t < 4 := by rw [← ht]; split <;> omega
  rw [st2 _ 2 m t (by decide) hm9, e2]
  have hb3 : (if 0 < q.2.2.1 ∧ m ≤ 2 * q.2.2.1 then nI t ||| nI (2 ^ 2) else nI t) = nI (t + if 0 < q.2.2.1 ∧ m ≤ 2 * q.2.2.1 then 4 else 0) := by
    split
    · have : t = 0 ∨ t = 1 ∨ t = 2 ∨ t = 3 := by omega
      rcases this with rfl | rfl | rfl | rfl <;> rfl
    · rfl
  rw [hb3, F_X12_hueOf_44, if_pos (by decide)]
theorem ix30 (i : Nat) : (0 : Int32) + (3 * nI i) = nI (3 * i) := by
  rw [L0, L3, pk_mul, nI_add, Nat.zero_add]
theorem darkM {σ : gS} {c i : Nat} {q : QD} (hi : i < 8) (h1 : σ.1 c (3 * i) = nI q.1) (h2 : σ.1 c (3 * i + 1) = nI q.2.1) (h3 : σ.1 c (3 * i + 2) = nI q.2.2.1) : F_X12_darkOf_0 c (nI i) σ = some (nI (dkQ q)) := by
  unfold F_X12_darkOf_0
  rw [ix30, L1, L2, nI_add, nI_add, ck_t (inR_t (by omega) (by decide)), ck_t (inR_t (by omega) (by decide)), ck_t (inR_t (by omega) (by decide)), TN_nI (by omega), TN_nI (by omega), TN_nI (by omega), h1, h2, h3, nI_add, nI_add]
  rfl
theorem rightM {σ : gS} {c i w : Nat} {q : QD} (hi : i < 8) (h1 : σ.1 c (3 * i) = nI q.1) (h2 : σ.1 c (3 * i + 1) = nI q.2.1) (h3 : σ.1 c (3 * i + 2) = nI q.2.2.1) (hq : okQ q) (hw : σ.1 c (32 + i) = nI w) (hw7 : w ≤ 7) : F_X12_isRight_0 c (nI i) σ = some (if hueQ q = w then 1 else 0) := by
  unfold F_X12_isRight_0
  have h7 : hueQ q ≤ 7 := hueN_le _ _ _
  rw [hueM hi h1 h2 h3 hq, ob_s, L32, nI_add, ck_t (inR_t (by omega) (by decide)), TN_nI (by omega), hw, if_nI_eq (by omega) (by omega)]
  split <;> rfl
