/-! PURE 7: what keeps the invariant; as, feed, wish -/
theorem IC.keep {σ τ : gS} {K : CS} {w : Nat → Nat} {q : Nat → QD} {m : Nat} (h : IC σ K w q m) (hc : ∀ c, (10 ≤ c ∧ c ≤ 15) ∨ c = 83 ∨ c = 86 → τ.1 c = σ.1 c) (h5 : τ.1 82 5 = σ.1 82 5) : IC τ K w q m := by
  obtain ⟨h1, h2, h3, h4, g1, g2, g3, g4, g5, g6⟩ := h
  refine ⟨h1, h2.keep (hc _ (by omega)) (hc _ (by omega)) (hc _ (by omega)) (hc _ (by omega)), ?_, ?_, ?_, ?_, ?_, ?_, ?_, g6⟩
  · rw [hc 12 (by omega)]; exact h3
  · rw [hc 13 (by omega)]; exact h4
  · rw [hc 83 (by omega)]; exact g1
  · rw [hc 86 (by omega)]; exact g2
  · rw [hc 86 (by omega)]; exact g3
  · rw [hc 10 (by omega)]; exact g4
  · rw [h5]; exact g5
theorem IP.keep {σ τ : gS} {K : CS} {m : Nat} (h : IP σ K m) (hc : ∀ c, c = 16 ∨ (18 ≤ c ∧ c ≤ 41) ∨ c = 88 → τ.1 c = σ.1 c) (h7 : τ.1 82 7 = σ.1 82 7) : IP τ K m := by
  obtain ⟨h, nx, h0, h1, h2, h3, h4, h5, H, hH⟩ := h
  refine ⟨h, nx, h0, h1, h2, by rw [hc 16 (by omega)]; exact h3, by rw [hc 16 (by omega)]; exact h4, by rw [h7]; exact h5, H, fun j hj => ?_⟩
  rw [hc (18 + (nx + 24 - h + j) % 24) (by omega), hc 88 (by omega)]
  exact hH j hj
theorem IKk.keep {σ τ : gS} {k : Nat} (h : IKk σ k) (hk : k < 2) (hc : ∀ c, (43 ≤ c ∧ c ≤ 54) ∨ c = 89 ∨ c = 90 → τ.1 c = σ.1 c) : IKk τ k := by
  rcases h with ⟨h1, h2⟩ | ⟨h1, K, w, q, m, g1, g2, g3, g4, g5, g6, g7, g8, g9, g10, g11⟩
  · left
    rw [hc (43 + 6 * k) (by omega), hc 90 (by omega)]
    exact ⟨h1, h2⟩
  · right
    rw [hc 90 (by omega)]
    refine ⟨h1, K, w, q, m, g1, g2, g3.keep (hc _ (by omega)) (hc _ (by omega)) (hc _ (by omega)) (hc _ (by omega)), ?_⟩
    rw [hc (43 + 6 * k) (by omega), hc (43 + 6 * k + 2) (by omega), hc (43 + 6 * k + 3) (by omega), hc 89 (by omega)]
    exact ⟨g4, g5, g6, g7, g8, g9, g10, g11⟩
theorem IT.keep {σ τ : gS} (h : IT σ) (h1 : τ.1 1 0 = σ.1 1 0) (h2 : τ.1 2 = σ.1 2) (h3 : τ.1 91 = σ.1 91) (h4 : τ.1 82 11 = σ.1 82 11) : IT τ := by
  unfold IT at *
  rw [h1, h2, h3, h4]
  exact h
theorem IR.keep {σ τ : gS} (h : IR σ) (h1 : τ.1 7 = σ.1 7) (h2 : τ.1 4 3 = σ.1 4 3) : IR τ := by
  unfold IR at *
  rw [h1, h2]
  exact h
theorem ISs.keep {σ τ : gS} {s : Nat} (h : ISs σ s) (hs : s < 4) (hc : ∀ c, (56 ≤ c ∧ c ≤ 63) ∨ c = 92 ∨ c = 93 → τ.1 c = σ.1 c) (hc2 : ∀ c, (56 ≤ c ∧ c ≤ 63) ∨ c = 94 → τ.2 c = σ.2 c) : ISs τ s := by
  unfold ISs at *
  rw [hc (56 + 2 * s) (by omega), hc 92 (by omega), hc 93 (by omega), hc2 (56 + 2 * s + 1) (by omega), hc2 94 (by omega)]
  exact h
/-- all that counts is as it was -/
def Ag (σ τ : gS) : Prop := (∀ c, c = 1 ∨ c = 2 ∨ c = 7 ∨ (10 ≤ c ∧ c ≤ 63) ∨ c = 83 ∨ c = 86 ∨ (88 ≤ c ∧ c ≤ 93) → τ.1 c = σ.1 c) ∧ (∀ c, (56 ≤ c ∧ c ≤ 63) ∨ c = 94 → τ.2 c = σ.2 c) ∧ τ.1 4 3 = σ.1 4 3 ∧ τ.1 82 5 = σ.1 82 5 ∧ τ.1 82 7 = σ.1 82 7 ∧ τ.1 82 11 = σ.1 82 11
theorem Inv.keep {σ τ : gS} (h : Inv σ) (a : Ag σ τ) : Inv τ := by
  obtain ⟨⟨K, w, q, m, hC, hP⟩, hk, hT, hR, hs⟩ := h
  obtain ⟨a1, a2, a3, a4, a5, a6⟩ := a
  exact ⟨⟨K, w, q, m, hC.keep (fun c hc => a1 c (by omega)) a4, hP.keep (fun c hc => a1 c (by omega)) a5⟩, fun k hk' => (hk k hk').keep hk' (fun c hc => a1 c (by omega)), hT.keep (by rw [a1 1 (by omega)]) (a1 2 (by omega)) (a1 91 (by omega)) a6, hR.keep (a1 7 (by omega)) a3, fun s hs' => (hs s hs').keep hs' (fun c hc => a1 c (by omega)) (fun c hc => a2 c hc)⟩
theorem Ag.rf (σ : gS) : Ag σ σ := ⟨fun _ _ => rfl, fun _ _ => rfl, rfl, rfl, rfl, rfl⟩
theorem Ag.tr {σ τ υ : gS} (h : Ag σ τ) (g : Ag τ υ) : Ag σ υ := ⟨fun c hc => (g.1 c hc).trans (h.1 c hc), fun c hc => (g.2.1 c hc).trans (h.2.1 c hc), g.2.2.1.trans h.2.2.1, g.2.2.2.1.trans h.2.2.2.1, g.2.2.2.2.1.trans h.2.2.2.2.1, g.2.2.2.2.2.trans h.2.2.2.2.2⟩
/-! as -/
theorem und_σ : ∀ (n : Nat) (a b c : Int32) (σ τ : gS), F_X3_isUnder_4 n a b c σ = F_X3_isUnder_4 n a b c τ := by
  intro n
  induction n with
  | zero => intros; rfl
  | succ n ih =>
    intro a b c σ τ
    unfold F_X3_isUnder_4
    simp only [F_X3_isUnder_33, bd_e]
    split
    · rfl
    · split
      · rfl
      · split
        · rfl
        · unfold ck; split
          · exact ih _ _ _ _ _
          · rfl
def σz : gS := (fun _ _ => 0, fun _ _ => 0)
def undN (k y : Nat) : Bool := y = 0 || y = k || (y = 1 && (k = 2 || k = 3)) || (y = 4 && k = 5)
theorem undI {k y : Nat} (hk : 1 ≤ k ∧ k ≤ 5) (hy : y ≤ 5) (σ : gS) : F_X3_isUnder_0 (nI k) (nI y) σ = some (bI (undN k y)) := by
  unfold F_X3_isUnder_0
  rw [und_σ fu _ _ _ σ σz]
  exact (by decide +kernel : ∀ k, k < 6 → 1 ≤ k → ∀ y, y < 6 → F_X3_isUnder_4 fu (nI y) (nI k) 0 σz = some (bI (undN k y))) k (by omega) hk.1 y (by omega)
theorem step_as {σ : gS} (hI : Inv σ) (x y : Int32) : ∃ r, F_X11_as_0 x y σ = some r ∧ F_X12_as_0 x y σ = some r := by
  obtain ⟨⟨K, w, q, m, ⟨hK, hS, hw, hq, hM, hwM, hqM, hd, hd2, hm⟩, -⟩, -⟩ := hI
  have h8 : kS K ≤ 8 := hK.1
  unfold F_X11_as_0 F_X12_as_0
  rw [hsqI hS.1 h8, isqM hM.1 h8, ob_s, if_bP, if_bP, inL y 0 5 (p := 0) (q := 5) rfl rfl, if_bP]
  by_cases hx : 0 ≤ x.toInt ∧ x.toInt < kS K
  · rw [if_pos hx, if_pos hx]
    obtain ⟨i, hi, rfl⟩ := of_rng hx (by omega)
    have hk := hK.2.2.2.2.2.1 i hi
    by_cases hy : 0 ≤ y.toInt ∧ y.toInt < (6 : Nat)
    · obtain ⟨j, hj, rfl⟩ := of_rng hy (by decide)
      rw [if_neg (fun z => by rw [lt0] at z; omega), if_pos (by rw [L5]; exact nI_le (by omega) (by decide)), if_pos (by omega)]
      refine ⟨if undN (kK K i) j then nI i else -12, ?_, ?_⟩
      · rw [ck_t (inR_t (by omega) (by decide)), TN_nI (by omega), hS.2.2.2.1 i hi, undI hk (by omega), ob_s]
        cases undN (kK K i) j <;> rfl
      · rw [L3, nI_add, ck_t (inR_t (by omega) (by decide)), TN_nI (by omega), hM.2.2.2.1 i hi, bd_e]
        generalize hv : kK K i = k at hk ⊢
        have hk' : k = 1 ∨ k = 2 ∨ k = 3 ∨ k = 4 ∨ k = 5 := by omega
        have hj' : j = 0 ∨ j = 1 ∨ j = 2 ∨ j = 3 ∨ j = 4 ∨ j = 5 := by omega
        rcases hk' with rfl | rfl | rfl | rfl | rfl <;> rcases hj' with rfl | rfl | rfl | rfl | rfl | rfl <;> rfl
    · refine ⟨-1, ?_, by rw [if_neg (by omega)]⟩
      by_cases h0 : y < 0
      · rw [if_pos h0]
      · rw [if_neg h0, if_neg (fun z => ?_)]
        rw [lt0] at h0
        rw [Int32.le_iff_toInt_le, show (5 : Int32).toInt = 5 from rfl] at z
        omega
  · exact ⟨-1, by rw [if_neg hx], by rw [if_neg hx]⟩
/-! feed -/
theorem step_feed {σ : gS} (hI : Inv σ) (x : Int32) : ∃ r σ1 σ2, F_X11_feed_0 x σ = some (r, σ1) ∧ F_X12_feed_0 x σ1 = some (r, σ2) ∧ Inv σ2 := by
  have hI0 := hI
  obtain ⟨⟨K, w, q, m, hC, hP⟩, hkp, ⟨n, t1, t2, t3, t4⟩, hR, hs⟩ := hI
  unfold F_X11_feed_0 F_X12_feed_0
  rw [inL x 0 255 (p := 0) (q := 255) rfl rfl]
  by_cases hx : 0 ≤ x.toInt ∧ x.toInt < (256 : Nat)
  · obtain ⟨b, hb, rfl⟩ := of_rng hx (by decide)
    rw [if_neg (fun z => by rw [lt0] at z; omega), if_pos (by rw [show (255 : Int32) = nI 255 from rfl]; exact nI_le (by omega) (by decide))]
    unfold F_X10_put_0
    rw [t2]
    by_cases hn : n < 80
    · rw [if_pos (by rw [show (80 : Int32) = nI 80 from rfl]; exact nI_lt hn (by decide)), bd_e, bd_e, ck_t (inR_t hn (by decide)), TN_nI (by omega), bd_e, ob2_s, if_neg (by decide), show nI n + 1 = nI (n + 1) from nI_1 n]
      refine ⟨nI (n + 1), sI (sI σ 1 0 (nI (n + 1))) 2 n (nI b), sI (sI (sI (sI σ 1 0 (nI (n + 1))) 2 n (nI b)) 91 n (nI b)) 82 11 (nI (n + 1)), ?_, ?_, ?_⟩
      · rw [sI_ne (by decide), sI_at]
      · have e11 : (sI (sI σ 1 0 (nI (n + 1))) 2 n (nI b)).1 82 11 = nI n := by rw [sI_ne (by decide), sI_ne (by decide), t3]
        rw [if_bP, if_pos (by omega), e11, if_neg (by rw [show (80 : Int32) = nI 80 from rfl, nI_eq (by omega) (by decide)]; omega), ck_t (inR_t hn (by decide)), TN_nI (by omega), bd_e, bd_e, sI_at, sI_ne (by decide), e11, show nI n + 1 = nI (n + 1) from nI_1 n]
      · refine ⟨⟨K, w, q, m, hC.keep (fun c hc => ?_) ?_, hP.keep (fun c hc => ?_) ?_⟩, fun k hk => (hkp k hk).keep hk (fun c hc => ?_), ?_, hR.keep ?_ ?_, fun s hs' => (hs s hs').keep hs' (fun c hc => ?_) (fun c hc => rfl)⟩
        · rw [sI_ne (by omega), sI_ne (by omega), sI_ne (by omega), sI_ne (by omega)]
        · rw [sI_o (by decide), sI_ne (by omega), sI_ne (by omega), sI_ne (by omega)]
        · rw [sI_ne (by omega), sI_ne (by omega), sI_ne (by omega), sI_ne (by omega)]
        · rw [sI_o (by decide), sI_ne (by omega), sI_ne (by omega), sI_ne (by omega)]
        · rw [sI_ne (by omega), sI_ne (by omega), sI_ne (by omega), sI_ne (by omega)]
        · refine ⟨n + 1, by omega, ?_, ?_, fun j hj => ?_⟩
          · rw [sI_ne (by omega), sI_ne (by omega), sI_ne (by omega), sI_at]
          · rw [sI_at]
          · by_cases hjn : j = n
            · subst hjn
              refine ⟨?_, b, hb, ?_⟩
              · rw [sI_ne (by omega), sI_ne (by omega), sI_at, sI_ne (by omega), sI_at]
              · rw [sI_ne (by omega), sI_at]
            · obtain ⟨g1, b', g2, g3⟩ := t4 j (by omega)
              refine ⟨?_, b', g2, ?_⟩
              · rw [sI_ne (by omega), sI_ne (by omega), sI_o hjn, sI_ne (by omega), sI_ne (by omega), sI_o hjn, sI_ne (by omega), sI_ne (by omega)]; exact g1
              · rw [sI_ne (by omega), sI_o hjn, sI_ne (by omega), sI_ne (by omega)]; exact g3
        · rw [sI_ne (by omega), sI_ne (by omega), sI_ne (by omega), sI_ne (by omega)]
        · rw [sI_ne (by omega), sI_ne (by omega), sI_ne (by omega), sI_ne (by omega)]
        · rw [sI_ne (by omega), sI_ne (by omega), sI_ne (by omega), sI_ne (by omega)]
    · have hn80 : n = 80 := by omega
      rw [if_neg (by rw [show (80 : Int32) = nI 80 from rfl, nI_ltI (by omega) (by decide)]; omega), ob2_s, if_pos rfl]
      refine ⟨-3, σ, σ, rfl, ?_, hI0⟩
      rw [if_bP, if_pos (by omega), t3, if_pos (by rw [hn80]; rfl)]
  · refine ⟨-1, σ, σ, ?_, ?_, hI0⟩
    · by_cases h0 : x < 0
      · rw [if_pos h0]
      · rw [if_neg h0, if_neg (fun z => ?_)]
        rw [lt0] at h0
        rw [Int32.le_iff_toInt_le, show (255 : Int32).toInt = 255 from rfl] at z
        omega
    · rw [if_bP, if_neg (by omega)]
/-! wish -/
theorem step_wish {σ : gS} (hI : Inv σ) (x y : Int32) : ∃ r σ1 σ2, F_X11_wish_0 x y σ = some (r, σ1) ∧ F_X12_wish_0 x y σ1 = some (r, σ2) ∧ Inv σ2 := by
  have hI0 := hI
  obtain ⟨⟨K, w, q, m, ⟨hK, hS, hw, hq, hM, hwM, hqM, hd, hd2, hm⟩, hP⟩, hkp, hT, hR, hs⟩ := hI
  have h8 : kS K ≤ 8 := hK.1
  unfold F_X11_wish_0 F_X12_wish_0
  rw [hsqI hS.1 h8, if_bP]
  by_cases hx : 0 ≤ x.toInt ∧ x.toInt < kS K
  · rw [if_pos hx]
    obtain ⟨i, hi, rfl⟩ := of_rng hx (by omega)
    by_cases hy : 0 ≤ y.toInt ∧ y.toInt < (8 : Nat)
    · obtain ⟨b, hb, rfl⟩ := of_rng hy (by decide)
      have hr : inR (nI i) 8 := inR_t (by omega) (by decide)
      have hr2 : inR (nI (32 + i)) 40 := inR_t (by omega) (by decide)
      rw [if_neg (fun z => by rw [lt0] at z; omega), if_pos (by rw [L7]; exact nI_le (by omega) (by decide))]
      simp only [ck_t hr]
      rw [TN_nI (by omega), (hw i hi).1, bd_e, bd_e]
      refine ⟨nI (w i), sI σ 12 i (nI b), sI (sI σ 12 i (nI b)) 86 (32 + i) (nI b), rfl, ?_, ?_⟩
      · have e83 : (sI σ 12 i (nI b)).1 83 = σ.1 83 := sI_ne (by decide)
        rw [isqM (by rw [e83]; exact hM.1) h8, ob_s, if_bP, if_pos hx, inL _ 0 7 (p := 0) (q := 7) rfl rfl, if_bP, if_pos (by omega), L32, nI_add]
        simp only [ck_t hr2]
        rw [TN_nI (by omega), sI_ne (by decide), (hwM i hi).1, bd_e, bd_e]
      · refine ⟨⟨K, fun j => if j = i then b else w j, q, m, ⟨hK, ?_, ?_, ?_, ?_, ?_, ?_, ?_, ?_, hm⟩, hP.keep (fun c hc => ?_) ?_⟩, fun k hk => (hkp k hk).keep hk (fun c hc => ?_), hT.keep ?_ ?_ ?_ ?_, hR.keep ?_ ?_, fun s hs' => (hs s hs').keep hs' (fun c hc => ?_) (fun c hc => rfl)⟩
        · exact hS.keep (by rw [sI_ne (by omega), sI_ne (by omega)]) (by rw [sI_ne (by omega), sI_ne (by omega)]) (by rw [sI_ne (by omega), sI_ne (by omega)]) (by rw [sI_ne (by omega), sI_ne (by omega)])
        · intro j hj
          by_cases hji : j = i
          · subst hji; simp only [if_true]; exact ⟨by rw [sI_ne (by omega), sI_at], by omega⟩
          · simp only [hji, if_false]; exact ⟨by rw [sI_ne (by omega), sI_o hji]; exact (hw j hj).1, (hw j hj).2⟩
        · rw [sI_ne (by omega), sI_ne (by omega)]; exact hq
        · rw [sI_ne (by omega), sI_ne (by omega)]; exact hM
        · intro j hj
          by_cases hji : j = i
          · subst hji; simp only [if_true]; exact ⟨by rw [sI_at], by omega⟩
          · simp only [hji, if_false]; exact ⟨by rw [sI_o (by omega), sI_ne (by omega)]; exact (hwM j hj).1, (hwM j hj).2⟩
        · intro j hj
          obtain ⟨g1, g2, g3, g4, g5⟩ := hqM j hj
          exact ⟨by rw [sI_o (by omega), sI_ne (by omega)]; exact g1, by rw [sI_o (by omega), sI_ne (by omega)]; exact g2, by rw [sI_o (by omega), sI_ne (by omega)]; exact g3, by rw [sI_o (by omega), sI_ne (by omega)]; exact g4, g5⟩
        · rw [sI_ne (by omega), sI_ne (by omega)]; exact hd
        · rw [sI_ne (by omega), sI_ne (by omega)]; exact hd2
        all_goals rw [sI_ne (by omega), sI_ne (by omega)]
    · refine ⟨-1, σ, σ, ?_, ?_, hI0⟩
      · by_cases h0 : y < 0
        · rw [if_pos h0]
        · rw [if_neg h0, if_neg (fun z => ?_)]
          rw [lt0] at h0
          rw [Int32.le_iff_toInt_le, show (7 : Int32).toInt = 7 from rfl] at z
          omega
      · rw [isqM hM.1 h8, ob_s, if_bP, if_pos hx, inL _ 0 7 (p := 0) (q := 7) rfl rfl, if_bP, if_neg (by omega)]
  · refine ⟨-1, σ, σ, by rw [if_neg hx], ?_, hI0⟩
    rw [isqM hM.1 h8, ob_s, if_bP, if_neg hx]
