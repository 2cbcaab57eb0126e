/-! PURE 5: the reference's loops over squares -/
def mrR (f : Nat → Int32) (q : Nat → QD) (i : Nat) : Nat → Int32 := fun k => if k < 24 then (if k / 3 < i then nI (cp (q (k / 3)) (k % 3)) else f k) else if k < 32 then (if k - 24 < i then nI (q (k - 24)).2.2.2 else f k) else f k
theorem mrR_0 (f : Nat → Int32) (q : Nat → QD) : mrR f q 0 = f := by
  funext k; unfold mrR; simp
theorem mrR_s (f : Nat → Int32) (q : Nat → QD) {i : Nat} (hi : i < 8) : pq (mrR f q i) i (q i) = mrR f q (i + 1) := by
  funext k
  unfold pq
  by_cases e0 : k = 3 * i
  · rw [if_pos e0]; unfold mrR; rw [if_pos (by omega), if_pos (by omega), show k / 3 = i by omega, show k % 3 = 0 by omega]; rfl
  · rw [if_neg e0]
    by_cases e1 : k = 3 * i + 1
    · rw [if_pos e1]; unfold mrR; rw [if_pos (by omega), if_pos (by omega), show k / 3 = i by omega, show k % 3 = 1 by omega]; rfl
    · rw [if_neg e1]
      by_cases e2 : k = 3 * i + 2
      · rw [if_pos e2]; unfold mrR; rw [if_pos (by omega), if_pos (by omega), show k / 3 = i by omega, show k % 3 = 2 by omega]; rfl
      · rw [if_neg e2]
        by_cases e3 : k = 24 + i
        · rw [if_pos e3]; unfold mrR; rw [if_neg (by omega), if_pos (by omega), if_pos (by omega), show k - 24 = i by omega]
        · rw [if_neg e3]; unfold mrR
          by_cases l1 : k < 24
          · rw [if_pos l1, if_pos l1]
            by_cases l2 : k / 3 < i
            · rw [if_pos l2, if_pos (by omega)]
            · rw [if_neg l2, if_neg (by omega)]
          · rw [if_neg l1, if_neg l1]
            by_cases l3 : k < 32
            · rw [if_pos l3, if_pos l3]
              by_cases l2 : k - 24 < i
              · rw [if_pos l2, if_pos (by omega)]
              · rw [if_neg l2, if_neg (by omega)]
            · rw [if_neg l3, if_neg l3]
theorem mrR_QM {f : Nat → Int32} {q : Nat → QD} {n : Nat} (hn : n ≤ 8) (h : ∀ i, i < n → okQ (q i)) : QM (mrR f q n) n q := by
  intro i hi
  refine ⟨?_, ?_, ?_, ?_, h i hi⟩
  · unfold mrR; rw [if_pos (by omega), if_pos (by omega), show 3 * i / 3 = i by omega, show 3 * i % 3 = 0 by omega]; rfl
  · unfold mrR; rw [if_pos (by omega), if_pos (by omega), show (3 * i + 1) / 3 = i by omega, show (3 * i + 1) % 3 = 1 by omega]; rfl
  · unfold mrR; rw [if_pos (by omega), if_pos (by omega), show (3 * i + 2) / 3 = i by omega, show (3 * i + 2) % 3 = 2 by omega]; rfl
  · unfold mrR; rw [if_neg (by omega), if_pos (by omega), if_pos (by omega), show 24 + i - 24 = i by omega]
theorem mrR_hi {f : Nat → Int32} {q : Nat → QD} {n k : Nat} (h : 32 ≤ k) : mrR f q n k = f k := by
  unfold mrR; rw [if_neg (by omega), if_neg (by omega)]
theorem mrR_old {f : Nat → Int32} {q : Nat → QD} {i j : Nat} (hj : i ≤ j) (h8 : j < 8) : mrR f q i (3 * j) = f (3 * j) ∧ mrR f q i (3 * j + 1) = f (3 * j + 1) ∧ mrR f q i (3 * j + 2) = f (3 * j + 2) ∧ mrR f q i (24 + j) = f (24 + j) := by
  unfold mrR
  refine ⟨?_, ?_, ?_, ?_⟩
  · rw [if_pos (by omega), if_neg (by omega)]
  · rw [if_pos (by omega), if_neg (by omega)]
  · rw [if_pos (by omega), if_neg (by omega)]
  · rw [if_neg (by omega), if_pos (by omega), if_neg (by omega)]
theorem doesAllM {σ : gS} {K : CS} {c d : Nat} {q : Nat → QD} (hS : SM (σ.1 83) K) (hK : okK K) (hc : c ≠ 83) (hd : okD K d) (hq : QM (σ.1 c) (kS K) q) :
    F_X12_doesAll_0 c (nI d) σ = some (s1 σ c (mrR (σ.1 c) (fun k => afQ K k d (q k)) (kS K))) := by
  have h8 : kS K ≤ 8 := hK.1
  have key : ∀ (m i n : Nat), i + m = kS K → m < n → F_X12_doesAll_2 c n (nI d) (nI i) (s1 σ c (mrR (σ.1 c) (fun k => afQ K k d (q k)) i)) = some (s1 σ c (mrR (σ.1 c) (fun k => afQ K k d (q k)) (kS K))) := by
    intro m
    induction m with
    | zero =>
      intro i n hi hn
      obtain ⟨n, rfl⟩ : ∃ k, n = k + 1 := ⟨n - 1, by omega⟩
      rw [F_X12_doesAll_2, s1_ne (Ne.symm hc), hS.1, if_pos (nI_le (by omega) (by omega)), show i = kS K by omega]
    | succ m ih =>
      intro i n hi hn
      obtain ⟨n, rfl⟩ : ∃ k, n = k + 1 := ⟨n - 1, by omega⟩
      have hi' : i < kS K := by omega
      obtain ⟨g1, g2, g3, g4, g5⟩ := hq i hi'
      obtain ⟨o1, o2, o3, o4⟩ := mrR_old (f := σ.1 c) (q := fun k => afQ K k d (q k)) (Nat.le_refl i) (show i < 8 by omega)
      have hdo := doesOnM (σ := s1 σ c (mrR (σ.1 c) (fun k => afQ K k d (q k)) i)) (q := q i) (by rw [s1_ne (Ne.symm hc)]; exact hS) hK hc hi' hd g5 (by rw [s1_eq, o1, g1]) (by rw [s1_eq, o2, g2]) (by rw [s1_eq, o3, g3]) (by rw [s1_eq, o4, g4])
      rw [F_X12_doesAll_2, s1_ne (Ne.symm hc), hS.1, if_neg (nI_ge hi' (by omega)), hdo, ob_s, bd_e, s1_eq, s1_s1, mrR_s _ (fun k => afQ K k d (q k)) (by omega), show nI i + 1 = nI (i + 1) from nI_1 i]
      exact ih (i + 1) n (by omega) (by omega)
  have := key (kS K) 0 fu (by omega) (by unfold fu; omega)
  rw [mrR_0, s1_id] at this
  exact this
def WM (f : Nat → Int32) (n : Nat) (w : Nat → Nat) : Prop := ∀ i, i < n → f (32 + i) = nI (w i) ∧ w i ≤ 7
theorem rightOnM {σ : gS} {K : CS} {c : Nat} {w : Nat → Nat} {q : Nat → QD} (hS : SM (σ.1 83) K) (hK : okK K) (hw : WM (σ.1 c) (kS K) w) (hq : QM (σ.1 c) (kS K) q) :
    F_X12_rightOn_0 c σ = some (nI (rsN (kS K) (fun i => decide (hueQ (q i) = w i)))) := by
  have h8 : kS K ≤ 8 := hK.1
  have key : ∀ (m i n : Nat), i + m = kS K → m < n → F_X12_rightOn_4 c n (nI (rsN i (fun i => decide (hueQ (q i) = w i)))) (nI i) σ = some (nI (rsN (kS K) (fun i => decide (hueQ (q i) = w i)))) := by
    intro m
    induction m with
    | zero =>
      intro i n hi hn
      obtain ⟨n, rfl⟩ : ∃ k, n = k + 1 := ⟨n - 1, by omega⟩
      rw [F_X12_rightOn_4, hS.1, if_pos (nI_le (by omega) (by omega)), show i = kS K by omega]
    | succ m ih =>
      intro i n hi hn
      obtain ⟨n, rfl⟩ : ∃ k, n = k + 1 := ⟨n - 1, by omega⟩
      have hi' : i < kS K := by omega
      obtain ⟨g1, g2, g3, g4, g5⟩ := hq i hi'
      obtain ⟨w1, w2⟩ := hw i hi'
      rw [F_X12_rightOn_4, hS.1, if_neg (nI_ge hi' (by omega)), rightM (by omega) g1 g2 g3 g5 w1 w2, ob_s]
      have h := ih (i + 1) n (by omega) (by omega)
      simp only [F_X12_rightOn_30, bd_e]
      rw [show nI i + 1 = nI (i + 1) from nI_1 i]
      by_cases hc : hueQ (q i) = w i
      · rw [if_pos hc, if_neg (by decide), rsN_or _ (by omega)]
        have e : rsN (i + 1) (fun i => decide (hueQ (q i) = w i)) = rsN i (fun i => decide (hueQ (q i) = w i)) + 2 ^ i := by
          rw [rsN]; simp [hc]
        rw [← e]; exact h
      · rw [if_neg hc, if_pos (by decide), L0, nI_or, Nat.or_zero]
        have e : rsN (i + 1) (fun i => decide (hueQ (q i) = w i)) = rsN i (fun i => decide (hueQ (q i) = w i)) := by
          rw [rsN]; simp [hc]
        rw [← e]; exact h
  exact key (kS K) 0 fu (by omega) (by unfold fu; omega)
theorem darkAllM {σ : gS} {K : CS} {c : Nat} {q : Nat → QD} (hS : SM (σ.1 83) K) (hK : okK K) (hq : QM (σ.1 c) (kS K) q) :
    F_X12_darkAll_0 c σ = some (nI (smN (kS K) (fun i => dkQ (q i)))) := by
  have h8 : kS K ≤ 8 := hK.1
  have key : ∀ (m i n : Nat), i + m = kS K → m < n → F_X12_darkAll_4 c n (nI (smN i (fun i => dkQ (q i)))) (nI i) σ = some (nI (smN (kS K) (fun i => dkQ (q i)))) := by
    intro m
    induction m with
    | zero =>
      intro i n hi hn
      obtain ⟨n, rfl⟩ : ∃ k, n = k + 1 := ⟨n - 1, by omega⟩
      rw [F_X12_darkAll_4, hS.1, if_pos (nI_le (by omega) (by omega)), show i = kS K by omega]
    | succ m ih =>
      intro i n hi hn
      obtain ⟨n, rfl⟩ : ∃ k, n = k + 1 := ⟨n - 1, by omega⟩
      have hi' : i < kS K := by omega
      obtain ⟨g1, g2, g3, g4, g5⟩ := hq i hi'
      rw [F_X12_darkAll_4, hS.1, if_neg (nI_ge hi' (by omega)), darkM (by omega) g1 g2 g3, ob_s, nI_add, bd_e, bd_e, show nI i + 1 = nI (i + 1) from nI_1 i]
      exact ih (i + 1) n (by omega) (by omega)
  exact key (kS K) 0 fu (by omega) (by unfold fu; omega)
theorem waxedM {σ : gS} {K : CS} {q : Nat → QD} (hS : SM (σ.1 83) K) (hK : okK K) (hq : QM (σ.1 86) (kS K) q) :
    F_X12_count_77 fu 0 0 σ = some (nI (rsN (kS K) (fun i => decide (0 < (q i).2.2.2)))) := by
  have h8 : kS K ≤ 8 := hK.1
  have key : ∀ (m i n : Nat), i + m = kS K → m < n → F_X12_count_77 n (nI (rsN i (fun i => decide (0 < (q i).2.2.2)))) (nI i) σ = some (nI (rsN (kS K) (fun i => decide (0 < (q i).2.2.2)))) := by
    intro m
    induction m with
    | zero =>
      intro i n hi hn
      obtain ⟨n, rfl⟩ : ∃ k, n = k + 1 := ⟨n - 1, by omega⟩
      rw [F_X12_count_77, hS.1, if_pos (nI_le (by omega) (by omega)), show i = kS K by omega]
    | succ m ih =>
      intro i n hi hn
      obtain ⟨n, rfl⟩ : ∃ k, n = k + 1 := ⟨n - 1, by omega⟩
      have hi' : i < kS K := by omega
      obtain ⟨g1, g2, g3, g4, g5⟩ := hq i hi'
      have w3 := g5.2.2.2
      rw [F_X12_count_77, hS.1, if_neg (nI_ge hi' (by omega)), L24, nI_add, ck_t (inR_t (by omega) (by decide)), TN_nI (by omega), g4]
      have h := ih (i + 1) n (by omega) (by omega)
      simp only [F_X12_count_107, bd_e]
      rw [show nI i + 1 = nI (i + 1) from nI_1 i]
      by_cases hc : 0 < (q i).2.2.2
      · rw [if_neg (by rw [L0]; exact nI_ge hc (by omega)), rsN_or _ (by omega)]
        have e : rsN (i + 1) (fun i => decide (0 < (q i).2.2.2)) = rsN i (fun i => decide (0 < (q i).2.2.2)) + 2 ^ i := by
          rw [rsN]; simp [hc]
        rw [← e]; exact h
      · rw [if_pos (by rw [L0]; exact nI_le (by omega) (by decide)), L0, nI_or, Nat.or_zero]
        have e : rsN (i + 1) (fun i => decide (0 < (q i).2.2.2)) = rsN i (fun i => decide (0 < (q i).2.2.2)) := by
          rw [rsN]; simp [hc]
        rw [← e]; exact h
  exact key (kS K) 0 fu (by omega) (by unfold fu; omega)
