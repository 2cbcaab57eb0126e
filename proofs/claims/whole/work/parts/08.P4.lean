/-! PURE 4: the reference's doings -/
def pq (f : Nat → Int32) (i : Nat) (q : QD) : Nat → Int32 := fun k => if k = 3 * i then nI q.1 else if k = 3 * i + 1 then nI q.2.1 else if k = 3 * i + 2 then nI q.2.2.1 else if k = 24 + i then nI q.2.2.2 else f k
theorem lessM {a b : Nat} (ha : a < 2 ^ 31) (hb : b < 2 ^ 31) : F_X12_less_0 (nI a) (nI b) = nI (min a b) := by
  unfold F_X12_less_0
  rw [if_nI_le hb ha]
  by_cases h : b ≤ a
  · rw [if_pos h, Nat.min_eq_right h]
  · rw [if_neg h, Nat.min_eq_left (by omega)]
theorem takenM {k b h : Nat} (hk : k ≤ 5) (hb : b ≤ 3) (hh : h ≤ 9) : F_X12_takenBy_0 (nI k) (nI h) (nI b) = some (nI (tkN k b h)) :=
  (by decide +kernel : ∀ k, k < 6 → ∀ b, b < 4 → ∀ h, h < 10 → F_X12_takenBy_0 (nI k) (nI h) (nI b) = some (nI (tkN k b h))) k (by omega) b (by omega) h (by omega)
theorem takenOnM {τ : gS} {K : CS} {c i d j h w : Nat} (hS : SM (τ.1 83) K) (hK : okK K) (hi : i < kS K) (hd : d < kD K) (hj : j < 3) (h1 : τ.1 c (3 * i + j) = nI h) (h9 : h ≤ 9) (h2 : τ.1 c (24 + i) = nI w) (hw : w ≤ 3) :
    F_X12_takenOn_0 c (nI i) (nI d) (nI j) τ = some (nI (if w = 0 then gnN (kK K i) (kA K (3 * d + j)) h else 0)) := by
  have h8 : kS K ≤ 8 := hK.1
  have h4 : kD K ≤ 4 := hK.2.1
  have hk := hK.2.2.2.2.2.1 i hi
  have ha := hK.2.2.2.2.2.2.1 (3 * d + j)
  unfold F_X12_takenOn_0
  rw [ix3, L24, L3, L11, pk_mul, nI_add, nI_add, nI_add, nI_add, ck_t (inR_t (by omega) (by decide)), TN_nI (by omega), h1, bd_e, ck_t (inR_t (by omega) (by decide)), TN_nI (by omega), h2]
  by_cases hz : w = 0
  · rw [hz, if_pos (by decide), ck_t (inR_t (by omega) (by decide)), ck_t (inR_t (by omega) (by decide)), TN_nI (by omega), TN_nI (by omega), hS.2.2.2.1 i hi, Nat.add_assoc 11, hS.2.2.2.2.1 _ (by omega), takenM hk.2 ha h9, ob_s, L9, pk_sub h9, lessM (by omega) (by have := tkN_le (k := kK K i) (h := h) ha; omega), if_pos rfl]
    unfold gnN
    rw [Nat.min_comm]
  · rw [if_neg (by rw [L0]; exact nI_ge (by omega) (by omega)), if_neg hz]; rfl
theorem upd_eq (f : Nat → Int32) (k : Nat) (v : Int32) : upd f k v k = v := by simp [upd]
theorem upd_ne {f : Nat → Int32} {k j : Nat} {v : Int32} (h : j ≠ k) : upd f k v j = f j := by simp [upd, h]
theorem bathM {σ : gS} {K : CS} {c i d : Nat} {q : QD} (hS : SM (σ.1 83) K) (hK : okK K) (hc : c ≠ 83) (hi : i < kS K) (hd : d < kD K) (hq : okQ q) (h0 : σ.1 c (3 * i) = nI q.1) (h1 : σ.1 c (3 * i + 1) = nI q.2.1) (h2 : σ.1 c (3 * i + 2) = nI q.2.2.1) (h3 : σ.1 c (24 + i) = nI q.2.2.2) :
    F_X12_bathes_0 c (nI i) (nI d) σ = some (s1 σ c (pq (σ.1 c) i (afQ K i d q))) := by
  have h8 : kS K ≤ 8 := hK.1
  have h4 : kD K ≤ 4 := hK.2.1
  have hk := hK.2.2.2.2.2.1 i hi
  have hq' := hq
  obtain ⟨k0, k1, k2, k3⟩ := hq'
  unfold F_X12_bathes_0
  rw [L24, nI_add, L3, nI_add, ck_t (inR_t (by omega) (by decide)), ck_t (inR_t (by omega) (by decide)), ck_t (inR_t (by omega) (by decide)), TN_nI (by omega), TN_nI (by omega), h3, hS.2.2.2.1 i hi]
  unfold afQ
  rw [if_pos (show d < 10 by omega)]
  by_cases hz : q.2.2.2 = 0
  · rw [hz, if_pos (by decide), if_pos rfl]
    have st : ∀ (n j h : Nat) (g : Nat → Int32), j < 3 → g (3 * i + j) = nI h → h ≤ 9 → g (24 + i) = nI 0 → F_X12_bathes_50 c (n + 1) (nI i) (nI d) (nI j) (s1 σ c g) = F_X12_bathes_50 c n (nI i) (nI d) (nI (j + 1)) (s1 σ c (upd g (3 * i + j) (nI (h + gnN (kK K i) (kA K (3 * d + j)) h)))) := by
      intro n j h g hj e1 e2 e3
      have hS' : SM ((s1 σ c g).1 83) K := by rw [s1_ne (Ne.symm hc)]; exact hS
      have hr : inR (nI (3 * i + j)) 40 := inR_t (by omega) (by decide)
      rw [F_X12_bathes_50, if_neg (by rw [L3]; exact nI_ge (by omega) (by decide)), ix3]
      simp only [ck_t hr]
      rw [TN_nI (by omega), takenOnM hS' hK hi hd hj (by rw [s1_eq]; exact e1) e2 (by rw [s1_eq]; exact e3) (by decide), ob_s, if_pos rfl, s1_eq, e1, nI_add, sI_s1', bd_e, bd_e, show nI j + 1 = nI (j + 1) from nI_1 j]
    rw [fu_s 4]
    have e : s1 σ c (σ.1 c) = σ := s1_id σ c
    have z : F_X12_bathes_50 c (20000 - 4 + 4) (nI i) (nI d) 0 σ = F_X12_bathes_50 c (19996 + 4) (nI i) (nI d) (nI 0) (s1 σ c (σ.1 c)) := by rw [e]; rfl
    rw [z, st _ 0 q.1 (σ.1 c) (by decide) h0 k0 (by rw [h3, hz])]
    rw [st _ 1 q.2.1 _ (by decide) (by rw [upd_ne (by omega)]; exact h1) k1 (by rw [upd_ne (by omega), h3, hz])]
    rw [st _ 2 q.2.2.1 _ (by decide) (by rw [upd_ne (by omega), upd_ne (by omega)]; exact h2) k2 (by rw [upd_ne (by omega), upd_ne (by omega), h3, hz])]
    rw [F_X12_bathes_50, if_pos (by decide)]
    congr 2
    funext k
    unfold pq upd dyQ
    simp only [Nat.add_zero, hz]
    by_cases e0 : k = 3 * i
    · simp [e0]
    · by_cases e1 : k = 3 * i + 1
      · simp [e1]
      · by_cases e2 : k = 3 * i + 2
        · simp [e2]
        · by_cases e3 : k = 24 + i
          · simp [e3, h3, hz, show ¬ 24 + i = 3 * i by omega, show ¬ 24 + i = 3 * i + 1 by omega, show ¬ 24 + i = 3 * i + 2 by omega]
          · simp [e0, e1, e2, e3]
  · rw [if_neg (by rw [L0]; exact nI_ge (by omega) (by omega)), if_neg hz]
    have ec : F_X12_cracksOn_0 (nI (kK K i)) = nI (crN (kK K i)) := (by decide +kernel : ∀ k, k < 6 → F_X12_cracksOn_0 (nI k) = nI (crN k)) _ (by omega)
    have fin : ∀ w' : Nat, F_X12_bathes_45 c (nI w') (nI (24 + i)) σ = some (s1 σ c (upd (σ.1 c) (24 + i) (nI w'))) := by
      intro w'
      unfold F_X12_bathes_45
      rw [ck_t (inR_t (by omega) (by decide)), TN_nI (by omega), bd_e, sI_s1]
    have fin2 : ∀ w' : Nat, upd (σ.1 c) (24 + i) (nI w') = pq (σ.1 c) i (q.1, q.2.1, q.2.2.1, w') := by
      intro w'
      funext k
      unfold pq upd
      by_cases e0 : k = 3 * i
      · simp [e0, h0, show ¬ 3 * i = 24 + i by omega]
      · by_cases e1 : k = 3 * i + 1
        · simp [e1, h1, show ¬ 3 * i + 1 = 24 + i by omega]
        · by_cases e2 : k = 3 * i + 2
          · simp [e2, h2, show ¬ 3 * i + 2 = 24 + i by omega]
          · by_cases e3 : k = 24 + i
            · simp [e3, show ¬ 24 + i = 3 * i by omega, show ¬ 24 + i = 3 * i + 1 by omega, show ¬ 24 + i = 3 * i + 2 by omega]
            · simp [e0, e1, e2, e3]
    rw [ec, bd_e]
    have hcr := crN_lt (kK K i)
    by_cases hle : crN (kK K i) ≤ q.2.2.2
    · rw [pk_sub hle, if_pos (by rw [L0]; exact nI_le (Nat.zero_le _) (by omega)), fin, fin2]
    · rw [if_neg (by have := pk_sneg (a := q.2.2.2) (b := crN (kK K i)) (by omega) (by omega); exact Int32.not_le.mpr this), L0, fin, fin2, show q.2.2.2 - crN (kK K i) = 0 by omega]
theorem rinseM {σ : gS} {c i : Nat} {q : QD} (hi : i < 8) (hq : okQ q) (h0 : σ.1 c (3 * i) = nI q.1) (h1 : σ.1 c (3 * i + 1) = nI q.2.1) (h2 : σ.1 c (3 * i + 2) = nI q.2.2.1) (h3 : σ.1 c (24 + i) = nI q.2.2.2) :
    F_X12_rinses_0 c (nI i) σ = some (s1 σ c (pq (σ.1 c) i (if q.2.2.2 = 0 then (q.1 - 1, q.2.1 - 1, q.2.2.1 - 1, 0) else q))) := by
  obtain ⟨k0, k1, k2, k3⟩ := hq
  have st : ∀ (n j h : Nat) (g : Nat → Int32), j < 3 → g (3 * i + j) = nI h → h ≤ 9 → g (24 + i) = nI q.2.2.2 → F_X12_rinses_2 c (n + 1) (nI i) (nI j) (s1 σ c g) = F_X12_rinses_2 c n (nI i) (nI (j + 1)) (s1 σ c (upd g (3 * i + j) (nI (if q.2.2.2 = 0 then h - 1 else h)))) := by
    intro n j h g hj e1 e2 e3
    have hr : inR (nI (3 * i + j)) 40 := inR_t (by omega) (by decide)
    have hr2 : inR (nI (24 + i)) 40 := inR_t (by omega) (by decide)
    rw [F_X12_rinses_2, if_neg (by rw [L3]; exact nI_ge (by omega) (by decide)), ix3, bd_e, L24, nI_add]
    simp only [F_X12_rinses_41, F_X12_rinses_42, ck_t hr, ck_t hr2, bd_e]
    rw [TN_nI (by omega), TN_nI (by omega), s1_eq, e1, e3, sI_s1', sI_s1', show nI j + 1 = nI (j + 1) from nI_1 j]
    by_cases c1 : h = 0
    · rw [if_pos (by rw [c1]; decide), c1]
      congr 3
      split <;> rfl
    · rw [if_neg (by rw [L0]; exact nI_ge (by omega) (by omega)), if_nI_z (by omega)]
      by_cases c2 : q.2.2.2 = 0
      · rw [if_pos c2, if_pos c2, L1, pk_sub (by omega)]
      · rw [if_neg c2, if_neg c2, L0, pk_sub (by omega), Nat.sub_zero]
  unfold F_X12_rinses_0
  rw [fu_s 4]
  have e : s1 σ c (σ.1 c) = σ := s1_id σ c
  have z : F_X12_rinses_2 c (20000 - 4 + 4) (nI i) 0 σ = F_X12_rinses_2 c (19996 + 4) (nI i) (nI 0) (s1 σ c (σ.1 c)) := by rw [e]; rfl
  rw [z, st _ 0 q.1 (σ.1 c) (by decide) h0 k0 h3]
  rw [st _ 1 q.2.1 _ (by decide) (by rw [upd_ne (by omega)]; exact h1) k1 (by rw [upd_ne (by omega)]; exact h3)]
  rw [st _ 2 q.2.2.1 _ (by decide) (by rw [upd_ne (by omega), upd_ne (by omega)]; exact h2) k2 (by rw [upd_ne (by omega), upd_ne (by omega)]; exact h3)]
  rw [F_X12_rinses_2, if_pos (by decide)]
  congr 2
  funext k
  unfold pq upd
  by_cases hw : q.2.2.2 = 0
  · simp only [Nat.add_zero, hw, if_true]
    by_cases e0 : k = 3 * i
    · simp [e0]
    · by_cases e1 : k = 3 * i + 1
      · simp [e1]
      · by_cases e2 : k = 3 * i + 2
        · simp [e2]
        · by_cases e3 : k = 24 + i
          · simp [e3, h3, hw, show ¬ 24 + i = 3 * i by omega, show ¬ 24 + i = 3 * i + 1 by omega, show ¬ 24 + i = 3 * i + 2 by omega]
          · simp [e0, e1, e2, e3]
  · simp only [Nat.add_zero, hw, if_false]
    by_cases e0 : k = 3 * i
    · simp [e0]
    · by_cases e1 : k = 3 * i + 1
      · simp [e1]
      · by_cases e2 : k = 3 * i + 2
        · simp [e2]
        · by_cases e3 : k = 24 + i
          · simp [e3, h3, show ¬ 24 + i = 3 * i by omega, show ¬ 24 + i = 3 * i + 1 by omega, show ¬ 24 + i = 3 * i + 2 by omega]
          · simp [e0, e1, e2, e3]
theorem updw {f : Nat → Int32} {i w : Nat} {q : QD} (hi : i < 8) (h0 : f (3 * i) = nI q.1) (h1 : f (3 * i + 1) = nI q.2.1) (h2 : f (3 * i + 2) = nI q.2.2.1) : upd f (24 + i) (nI w) = pq f i (q.1, q.2.1, q.2.2.1, w) := by
  funext k
  unfold pq upd
  by_cases e0 : k = 3 * i
  · simp [e0, h0, show ¬ 3 * i = 24 + i by omega]
  · by_cases e1 : k = 3 * i + 1
    · simp [e1, h1, show ¬ 3 * i + 1 = 24 + i by omega]
    · by_cases e2 : k = 3 * i + 2
      · simp [e2, h2, show ¬ 3 * i + 2 = 24 + i by omega]
      · by_cases e3 : k = 24 + i
        · simp [e3, show ¬ 24 + i = 3 * i by omega, show ¬ 24 + i = 3 * i + 1 by omega, show ¬ 24 + i = 3 * i + 2 by omega]
        · simp [e0, e1, e2, e3]
theorem hasM {s i : Nat} (hs : s < 256) (hi : i < 8) : F_X12_has_0 (nI s) (nI i) = if s.testBit i then 1 else 0 := by
  unfold F_X12_has_0
  rw [bitI hs hi]
  split
  · rw [if_pos rfl]
  · rw [if_neg (by decide)]
theorem doesOnM {σ : gS} {K : CS} {c i d : Nat} {q : QD} (hS : SM (σ.1 83) K) (hK : okK K) (hc : c ≠ 83) (hi : i < kS K) (hd : okD K d) (hq : okQ q) (h0 : σ.1 c (3 * i) = nI q.1) (h1 : σ.1 c (3 * i + 1) = nI q.2.1) (h2 : σ.1 c (3 * i + 2) = nI q.2.2.1) (h3 : σ.1 c (24 + i) = nI q.2.2.2) :
    F_X12_doesOn_0 c (nI i) (nI d) σ = some (s1 σ c (pq (σ.1 c) i (afQ K i d q))) := by
  have h8 : kS K ≤ 8 := hK.1
  have h4 : kD K ≤ 4 := hK.2.1
  have h3' : kT K ≤ 3 := hK.2.2.1
  have hd21 : d ≤ 21 := by unfold okD at hd; omega
  unfold F_X12_doesOn_0
  rw [L4, if_nI_le (by decide) (by omega), L20, if_nI_le (by decide) (by omega), if_nI_eq (by omega) (by decide)]
  by_cases c1 : 4 ≤ d
  · rw [if_pos c1]
    have d10 : 10 ≤ d := by unfold okD at hd; omega
    by_cases c2 : 20 ≤ d
    · rw [if_pos c2]
      by_cases c3 : d = 20
      · rw [if_pos c3, L24, nI_add, ck_t (inR_t (by omega) (by decide)), TN_nI (by omega), bd_e, sI_s1, L0, updw (by omega) h0 h1 h2]
        unfold afQ
        rw [if_neg (show ¬ d < 10 by omega), if_neg (show ¬ d < 20 by omega), if_pos c3]
      · rw [if_neg c3, rinseM (by omega) hq h0 h1 h2 h3, ob_s]
        unfold afQ
        rw [if_neg (show ¬ d < 10 by omega), if_neg (show ¬ d < 20 by omega), if_neg c3]
    · rw [if_neg c2]
      have ht : d - 10 < kT K := by unfold okD at hd; omega
      rw [L23, nI_add, L10, pk_sub (by omega), ck_t (inR_t (by omega) (by decide)), TN_nI (by omega), show 23 + d - 10 = 23 + (d - 10) by omega, hS.2.2.2.2.2 _ ht, hasM (hK.2.2.2.2.2.2.2 _) (by omega), L24, nI_add]
      have fin : ∀ w' : Nat, F_X12_doesOn_55 c (nI w') (nI (24 + i)) σ = some (s1 σ c (pq (σ.1 c) i (q.1, q.2.1, q.2.2.1, w'))) := by
        intro w'
        unfold F_X12_doesOn_55
        rw [ck_t (inR_t (by omega) (by decide)), TN_nI (by omega), bd_e, sI_s1, updw (by omega) h0 h1 h2]
      unfold afQ
      rw [if_neg (show ¬ d < 10 by omega), if_pos (show d < 20 by omega)]
      by_cases c5 : (kN K (d - 10)).testBit i = true
      · rw [if_pos c5, if_pos c5, if_neg (by decide), L3, fin]
      · rw [if_neg c5, if_neg c5, if_pos (by decide), ck_t (inR_t (by omega) (by decide)), TN_nI (by omega), h3, fin]
  · rw [if_neg c1, bathM hS hK hc hi (by unfold okD at hd; omega) hq h0 h1 h2 h3, ob_s]
