/-! PURE X: cloth: the step -/
theorem z32 : ∀ (m k f : Nat) (υ : gS) (h : Nat → Int32), k + m = 32 → m < f → (∀ j, j < k → h j = 0) → ∃ h', (∀ j, j < 32 → h' j = 0) ∧ F_X12_cloth_39 f (nI k) (s1 υ 86 h) = (ob (F_X12_copies_0 85 86 0 32 8 (s1 υ 86 h')) (fun σ71 => bd (sI σ71 82 5 0) (fun σ76 => bd (sI σ76 82 7 0) (fun σ81 => some (σ81.1 83 0, σ81))))) := by
  intro m
  induction m with
  | zero =>
    intro k f υ h hk hf hz
    obtain ⟨f, rfl⟩ : ∃ z, f = z + 1 := ⟨f - 1, by omega⟩
    refine ⟨h, fun j hj => hz j (by omega), ?_⟩
    rw [F_X12_cloth_39, if_pos (show (32 : Int32) ≤ nI k from nI_le (a := 32) (by omega) (by omega))]
  | succ m ih =>
    intro k f υ h hk hf hz
    obtain ⟨f, rfl⟩ : ∃ z, f = z + 1 := ⟨f - 1, by omega⟩
    rw [F_X12_cloth_39, if_neg (show ¬ (32 : Int32) ≤ nI k from nI_ge (b := 32) (by omega) (by omega)), ck_t (inR_t (by omega) (by decide)), TN_nI (by omega), bd_e, bd_e, show nI k + 1 = nI (k + 1) from nI_1 k, sI_s1']
    refine ih (k + 1) f υ _ (by omega) (by omega) (fun j hj => ?_)
    by_cases e : j = k
    · rw [e, upd_eq]
    · rw [upd_ne e]; exact hz j (by omega)
/-- numbers behind cells -/
def nT (x : Int32) : Nat := x.toInt.toNat
theorem nT_nI {a : Nat} (h : a < 2 ^ 31) : nT (nI a) = a := by unfold nT; rw [nI_toInt h]; rfl
theorem step_cloth {σ : gS} (hI : Inv σ) : ∃ r σ1 σ2, F_X11_cloth_0 σ = some (r, σ1) ∧ F_X12_cloth_0 σ1 = some (r, σ2) ∧ Inv σ2 := by
  obtain ⟨⟨K0, w0, q0, m0, hC, hP⟩, hkp, hTT, hR, hs⟩ := id hI
  obtain ⟨N, t1, t2, t3, t4⟩ := hTT
  let B : Nat → Nat := fun j => nT (σ.1 91 j)
  have hB : ∀ j, j < N → σ.1 2 j = nI (B j) ∧ σ.1 91 j = nI (B j) ∧ B j < 256 := by
    intro j hj
    obtain ⟨e1, b, hb, e2⟩ := t4 j hj
    have : B j = b := by show nT (σ.1 91 j) = b; rw [e2, nT_nI (by omega)]
    rw [this, e1]; exact ⟨e2, e2, hb⟩
  have hT0 : TP σ σ N B := ⟨t1, t2, fun j hj => (hB j hj).1, t3, fun j hj => (hB j hj).2.1, fun j hj => (hB j hj).2.2⟩
  obtain ⟨fl, τ, υ0, p, S, d, T, a1, a2, -, a4⟩ := readL hT0
  -- the reading on any later state of the model's tape
  have again : ∀ σ1 : gS, σ1.1 82 = σ.1 82 → σ1.1 91 = σ.1 91 → ∃ υ, FRM σ1 υ ∧ υ.1 82 15 = nI p ∧ F_X12_reads_0 σ1 = some (fl, υ) ∧ (fl = 0 ∨ (fl = 1 ∧ (1 ≤ S ∧ S ≤ 8) ∧ (1 ≤ d ∧ d ≤ 4) ∧ (1 ≤ T ∧ T ≤ 3) ∧ DT τ υ S (3 * d) T d ∧ τ.1 4 0 = nI S ∧ τ.1 4 1 = nI d ∧ τ.1 4 2 = nI T)) := by
    intro σ1 e82 e91
    have hT1 : TP σ σ1 N B := ⟨t1, t2, fun j hj => (hB j hj).1, by rw [e82]; exact t3, fun j hj => by rw [e91]; exact (hB j hj).2.1, fun j hj => (hB j hj).2.2⟩
    obtain ⟨fl', τ', υ, p', S', d', T', b1, b2, b3, b4⟩ := readL hT1
    have e := a2.symm.trans b2
    injection e with e
    injection e with e1 e2
    subst e1 e2
    have hpp : p' = p := by
      have h1 := a1.2.2.2.1
      have h2 := b1.2.2.2.1
      rw [h1] at h2
      have := a1.2.2.1
      have := b1.2.2.1
      have := congrArg nT h2
      rw [nT_nI (by omega), nT_nI (by omega)] at this
      exact this.symm
    refine ⟨υ, b1.2.1, by rw [← hpp]; exact b1.2.2.2.2, b3, ?_⟩
    rcases a4 with h | ⟨h, c1, c2, c3, -, c5, c6, c7⟩
    · exact Or.inl h
    · rcases b4 with h' | ⟨-, d1, d2, d3, d4, d5, d6, d7⟩
      · rw [h] at h'; exact absurd h' (by decide)
      · have eS : S' = S := by rw [c5] at d5; have := congrArg nT d5; rw [nT_nI (by omega), nT_nI (by omega)] at this; exact this.symm
        have ed : d' = d := by rw [c6] at d6; have := congrArg nT d6; rw [nT_nI (by omega), nT_nI (by omega)] at this; exact this.symm
        have eT : T' = T := by rw [c7] at d7; have := congrArg nT d7; rw [nT_nI (by omega), nT_nI (by omega)] at this; exact this.symm
        subst eS ed eT
        exact Or.inr ⟨h, c1, c2, c3, d4, c5, c6, c7⟩
  have fC := a1.1
  have fc : ∀ c, c ≠ 3 → c ≠ 4 → c ≠ 5 → c ≠ 6 → c ≠ 8 → c ≠ 9 → τ.1 c = σ.1 c := fC.1
  have hF : fl = 0 ∨ fl = 1 := a4.imp id (fun h => h.1)
  rcases hF with h0 | h1
  · -- refused
    subst h0
    have cl : F_X11_cloth_0 σ = some ((-100) - nI p, sI τ 1 0 0) := by
      unfold F_X11_cloth_0
      rw [a2, ob2_s, bd_e, if_pos rfl, sI_ne (by decide), a1.2.2.2.1]
    obtain ⟨υ, u1, u2, u3, -⟩ := again (sI τ 1 0 0) (by rw [sI_ne (by decide), fc 82 (by decide) (by decide) (by decide) (by decide) (by decide) (by decide)]) (by rw [sI_ne (by decide), fc 91 (by decide) (by decide) (by decide) (by decide) (by decide) (by decide)])
    have md : F_X12_cloth_0 (sI τ 1 0 0) = some ((-100) - nI p, sI υ 82 11 0) := by
      unfold F_X12_cloth_0
      rw [u3, ob2_s, bd_e, if_pos rfl, sI_o (by decide), u2]
    refine ⟨_, _, _, cl, md, ?_⟩
    have kc : ∀ c, c ≠ 1 → c ≠ 3 → c ≠ 4 → c ≠ 5 → c ≠ 6 → c ≠ 8 → c ≠ 9 → c ≠ 82 → c ≠ 84 → c ≠ 85 → (sI υ 82 11 0).1 c = σ.1 c := by
      intro c d1 d3 d4 d5 d6 d8 d9 d82 d84 d85
      rw [sI_ne d82, u1.1 c d82 d84 d85, sI_ne d1, fc c d3 d4 d5 d6 d8 d9]
    have k82 : ∀ k, k ≠ 11 → k ≠ 15 → k ≠ 16 → (sI υ 82 11 0).1 82 k = σ.1 82 k := by
      intro k d1 d2 d3
      rw [sI_o d1, u1.2.2 k d2 d3, sI_ne (by decide), fc 82 (by decide) (by decide) (by decide) (by decide) (by decide) (by decide)]
    have k2 : (sI υ 82 11 0).2 = σ.2 := by rw [sI_2, u1.2.1, sI_2, fC.2.1]
    refine ⟨⟨K0, w0, q0, m0, hC.keep (fun c hc => kc c (by omega) (by omega) (by omega) (by omega) (by omega) (by omega) (by omega) (by omega) (by omega) (by omega)) (k82 5 (by decide) (by decide) (by decide)), hP.keep (fun c hc => kc c (by omega) (by omega) (by omega) (by omega) (by omega) (by omega) (by omega) (by omega) (by omega) (by omega)) (k82 7 (by decide) (by decide) (by decide))⟩, fun k hk => (hkp k hk).keep hk (fun c hc => kc c (by omega) (by omega) (by omega) (by omega) (by omega) (by omega) (by omega) (by omega) (by omega) (by omega)), ⟨0, by decide, ?_, sI_at _ _ _ _, fun j hj => absurd hj (by omega)⟩, hR.keep (kc 7 (by decide) (by decide) (by decide) (by decide) (by decide) (by decide) (by decide) (by decide) (by decide) (by decide)) ?_, fun s hs4 => (hs s hs4).keep hs4 (fun c hc => kc c (by omega) (by omega) (by omega) (by omega) (by omega) (by omega) (by omega) (by omega) (by omega) (by omega)) (fun c hc => by rw [k2])⟩
    · rw [sI_ne (by decide), u1.1 1 (by decide) (by decide) (by decide), sI_at]; rfl
    · rw [sI_ne (by decide), u1.1 4 (by decide) (by decide) (by decide), sI_ne (by decide)]; exact fC.2.2
  · -- read
    subst h1
    obtain ⟨σb, e1, e2, e3, e4, e5, e6, e7, e8, e9⟩ := becomeI (σ := sI τ 1 0 0) (c0 := 10) (c1 := 4) (by omega)
    let σ1 := sI σb 16 0 0
    have cl : F_X11_cloth_0 σ = some (σ1.1 10 0, σ1) := by
      unfold F_X11_cloth_0
      rw [a2, ob2_s, bd_e, if_neg (by decide), e1, ob_s]
      unfold F_X4_forget_0
      rw [bd_e, ob_s]
    have c1 : ∀ c, (c < 10 ∨ 15 < c) → c ≠ 16 → c ≠ 1 → σ1.1 c = τ.1 c := by
      intro c d1 d2 d3
      show (sI σb 16 0 0).1 c = _
      rw [sI_ne d2, e3 c (by omega), sI_ne d3]
    have c10 : ∀ c, 10 ≤ c → c ≤ 15 → σ1.1 c = σb.1 c := fun c d1 d2 => sI_ne (by omega)
    have f82 : σ1.1 82 = σ.1 82 := by rw [c1 82 (by omega) (by decide) (by decide), fc 82 (by decide) (by decide) (by decide) (by decide) (by decide) (by decide)]
    have f91 : σ1.1 91 = σ.1 91 := by rw [c1 91 (by omega) (by decide) (by decide), fc 91 (by decide) (by decide) (by decide) (by decide) (by decide) (by decide)]
    obtain ⟨υ, u1, u2, u3, u4⟩ := again σ1 f82 f91
    obtain ⟨-, hS, hd, hT, ⟨g1, g2, g3, g4, g5, g6⟩, k0, k1, k2⟩ := u4.resolve_left (by decide)
    let υ1 := sI υ 82 11 0
    have hc1 : F_X12_copies_0 84 83 0 0 26 υ1 = _ := copiesM (σ := υ1) (c0 := 84) (c2 := 83) (i := 0) (j := 0) (n := 26) (by decide) (by decide) (by decide) (by decide) (by decide) (by decide)
    let υ2 := s1 υ1 83 (va_cpy (υ1.1 84) (υ1.1 83) 0 0 26)
    obtain ⟨h', z1, z2⟩ := z32 32 0 fu υ2 (υ2.1 86) (by omega) (by unfold fu; omega) (fun j hj => absurd hj (by omega))
    rw [s1_id] at z2
    have z2' : F_X12_cloth_39 fu 0 υ2 = _ := z2
    let υ3 := s1 υ2 86 h'
    have hc2 : F_X12_copies_0 85 86 0 32 8 υ3 = _ := copiesM (σ := υ3) (c0 := 85) (c2 := 86) (i := 0) (j := 32) (n := 8) (by decide) (by decide) (by decide) (by decide) (by decide) (by decide)
    let υ4 := s1 υ3 86 (va_cpy (υ3.1 85) (υ3.1 86) 0 32 8)
    let υ5 := sI (sI υ4 82 5 0) 82 7 0
    have md : F_X12_cloth_0 σ1 = some (υ5.1 83 0, υ5) := by
      unfold F_X12_cloth_0
      rw [u3, ob2_s, bd_e, if_neg (by decide)]
      show ob (F_X12_copies_0 84 83 0 0 26 υ1) _ = _
      rw [hc1, ob_s]
      show F_X12_cloth_39 fu 0 υ2 = _
      rw [z2']
      show ob (F_X12_copies_0 85 86 0 32 8 υ3) _ = _
      rw [hc2, ob_s]
      rfl
    have cc : ∀ {f g : Nat → Int32} {i n j : Nat}, j < n → va_cpy f g i 0 n j = f (i + j) := by
      intro f g i n j hj
      have := cpy_in (f := f) (g := g) (i := i) (j := 0) hj
      rw [Nat.zero_add] at this
      exact this
    have r83 : ∀ j, j < 26 → υ5.1 83 j = υ.1 84 j := by
      intro j hj
      show (sI (sI (s1 (s1 (s1 υ1 83 _) 86 h') 86 _) 82 5 0) 82 7 0).1 83 j = _
      rw [sI_ne (by decide), sI_ne (by decide), s1_ne (by decide), s1_ne (by decide), s1_eq, cc hj, Nat.zero_add]
      show (sI υ 82 11 0).1 84 j = _
      rw [sI_ne (by decide)]
    have r86w : ∀ j, j < 8 → υ5.1 86 (32 + j) = υ.1 85 j := by
      intro j hj
      show (sI (sI (s1 υ3 86 (va_cpy (υ3.1 85) (υ3.1 86) 0 32 8)) 82 5 0) 82 7 0).1 86 (32 + j) = _
      rw [sI_ne (by decide), sI_ne (by decide), s1_eq, cpy_in hj, Nat.zero_add]
      show (s1 (s1 (sI υ 82 11 0) 83 _) 86 h').1 85 j = _
      rw [s1_ne (by decide), s1_ne (by decide), sI_ne (by decide)]
    have r86z : ∀ j, j < 32 → υ5.1 86 j = 0 := by
      intro j hj
      show (sI (sI (s1 υ3 86 (va_cpy (υ3.1 85) (υ3.1 86) 0 32 8)) 82 5 0) 82 7 0).1 86 j = _
      rw [sI_ne (by decide), sI_ne (by decide), s1_eq, cpy_out (by omega)]
      show (s1 υ2 86 h').1 86 j = _
      rw [s1_eq]; exact z1 j hj
    have kM : ∀ c, c ≠ 82 → c ≠ 83 → c ≠ 84 → c ≠ 85 → c ≠ 86 → υ5.1 c = σ1.1 c := by
      intro c d1 d2 d3 d4 d5
      show (sI (sI (s1 (s1 (s1 (sI υ 82 11 0) 83 _) 86 h') 86 _) 82 5 0) 82 7 0).1 c = _
      rw [sI_ne d1, sI_ne d1, s1_ne d5, s1_ne d5, s1_ne d2, sI_ne d1, u1.1 c d1 d3 d4]
    have kA : ∀ c, (c < 10 ∨ 16 < c) → c ≠ 1 → c ≠ 3 → c ≠ 4 → c ≠ 5 → c ≠ 6 → c ≠ 8 → c ≠ 9 → c ≠ 82 → c ≠ 83 → c ≠ 84 → c ≠ 85 → c ≠ 86 → υ5.1 c = σ.1 c := by
      intro c d0 d1 d3 d4 d5 d6 d8 d9 d82 d83 d84 d85 d86
      rw [kM c d82 d83 d84 d85 d86, c1 c (by omega) (by omega) d1, fc c d3 d4 d5 d6 d8 d9]
    have kL : υ5.2 = σ.2 := by
      show υ.2 = _
      rw [u1.2.1]
      show σb.2 = _
      rw [e2]
      show τ.2 = _
      exact fC.2.1
    have k7 : τ.1 7 = σ.1 7 := fc 7 (by decide) (by decide) (by decide) (by decide) (by decide) (by decide)
    have kk : ∀ c, 10 ≤ c → c ≤ 15 → υ5.1 c = σb.1 c := fun c d1 d2 => by rw [kM c (by omega) (by omega) (by omega) (by omega) (by omega), c10 c d1 d2]
    have bS : υ5.1 10 0 = nI S := by rw [kk 10 (by decide) (by decide), e4 0 (by decide), sI_ne (by decide)]; exact k0
    have mS : υ5.1 83 0 = nI S := by rw [r83 0 (by decide)]; exact g4
    let K : CS := (S, d, T, fun i => nT (τ.1 5 i), fun j => if j < 3 * d then nT (τ.1 8 j) else 0, fun t => if t < T then nT (τ.1 9 t) else 0)
    have hk5 : ∀ i, i < S → τ.1 5 i = nI (nT (τ.1 5 i)) ∧ υ.1 84 (3 + i) = nI (nT (τ.1 5 i)) ∧ 1 ≤ nT (τ.1 5 i) ∧ nT (τ.1 5 i) ≤ 5 ∧ τ.1 6 i = nI (nT (τ.1 6 i)) ∧ υ.1 85 i = nI (nT (τ.1 6 i)) ∧ nT (τ.1 6 i) ≤ 7 := by
      intro i hi
      obtain ⟨a, w, ha, hw, x1, x2, x3, x4⟩ := g1 i hi
      rw [x1, x2, x3, x4, nT_nI (by omega), nT_nI (by omega)]
      exact ⟨rfl, rfl, ha.1, ha.2, rfl, rfl, hw⟩
    have hk8 : ∀ j, j < 3 * d → τ.1 8 j = nI (nT (τ.1 8 j)) ∧ υ.1 84 (11 + j) = nI (nT (τ.1 8 j)) ∧ nT (τ.1 8 j) ≤ 3 := by
      intro j hj
      obtain ⟨a, ha, x1, x2⟩ := g2 j hj
      rw [x1, x2, nT_nI (by omega)]
      exact ⟨rfl, rfl, ha⟩
    have hk9 : ∀ t, t < T → τ.1 9 t = nI (nT (τ.1 9 t)) ∧ υ.1 84 (23 + t) = nI (nT (τ.1 9 t)) ∧ nT (τ.1 9 t) < 256 := by
      intro t ht
      obtain ⟨a, ha, x1, x2⟩ := g3 t ht
      rw [x1, x2, nT_nI (by omega)]
      exact ⟨rfl, rfl, ha⟩
    have hK : okK K := by
      refine ⟨hS.2, hd.2, hT.2, ⟨fun _ => hd.1, fun _ => hS.1⟩, ⟨fun _ => hT.1, fun _ => hS.1⟩, fun i hi => ⟨(hk5 i hi).2.2.1, (hk5 i hi).2.2.2.1⟩, fun j => ?_, fun t => ?_⟩
      · show (if j < 3 * d then nT (τ.1 8 j) else 0) ≤ 3
        split
        · rename_i h; exact (hk8 j h).2.2
        · omega
      · show (if t < T then nT (τ.1 9 t) else 0) < 256
        split
        · rename_i h; exact (hk9 t h).2.2
        · omega
    have hIC : IC υ5 K (fun i => nT (τ.1 6 i)) (fun _ => (0, 0, 0, 0)) 0 := by
      have oz : okQ (0, 0, 0, 0) := by unfold okQ; decide
      refine ⟨hK, ⟨bS, ?_, ?_, fun i hi => ?_, fun j hj => ?_, fun t ht => ?_⟩, fun i hi => ?_, fun i hi => ?_, ⟨mS, ?_, ?_, fun i hi => ?_, fun j hj => ?_, fun t ht => ?_⟩, fun i hi => ?_, fun i hi => ?_, ?_, ?_, by decide⟩
      · rw [kk 10 (by decide) (by decide), e4 1 (by decide), sI_ne (by decide)]; exact k1
      · rw [kk 10 (by decide) (by decide), e4 2 (by decide), sI_ne (by decide)]; exact k2
      · have hi' : i < S := hi
        rw [kk 11 (by decide) (by decide), e5 i (by omega), sI_ne (by decide)]; exact (hk5 i hi').1
      · have hj' : j < 3 * d := hj
        rw [kk 14 (by decide) (by decide), e8 j (by omega), sI_ne (by decide)]
        show τ.1 8 j = nI (if j < 3 * d then nT (τ.1 8 j) else 0)
        rw [if_pos hj']; exact (hk8 j hj').1
      · have ht' : t < T := ht
        rw [kk 15 (by decide) (by decide), e9 t (by omega), sI_ne (by decide)]
        show τ.1 9 t = nI (if t < T then nT (τ.1 9 t) else 0)
        rw [if_pos ht']; exact (hk9 t ht').1
      · have hi' : i < S := hi
        rw [kk 12 (by decide) (by decide), e6 i (by omega), sI_ne (by decide)]
        exact ⟨(hk5 i hi').2.2.2.2.1, (hk5 i hi').2.2.2.2.2.2⟩
      · have hi' : i < S := hi
        rw [kk 13 (by decide) (by decide), e7 i (by omega), sI_ne (by decide), k7, hR.1 i (by omega)]
        exact ⟨rfl, oz⟩
      · rw [r83 1 (by decide)]; exact g5
      · rw [r83 2 (by decide)]; exact g6
      · have hi' : i < S := hi
        rw [r83 _ (by omega)]; exact (hk5 i hi').2.1
      · have hj' : j < 3 * d := hj
        rw [r83 _ (by omega)]
        show υ.1 84 (11 + j) = nI (if j < 3 * d then nT (τ.1 8 j) else 0)
        rw [if_pos hj']; exact (hk8 j hj').2.1
      · have ht' : t < T := ht
        rw [r83 _ (by omega)]
        show υ.1 84 (23 + t) = nI (if t < T then nT (τ.1 9 t) else 0)
        rw [if_pos ht']; exact (hk9 t ht').2.1
      · have hi' : i < S := hi
        rw [r86w i (by omega)]
        exact ⟨(hk5 i hi').2.2.2.2.2.1, (hk5 i hi').2.2.2.2.2.2⟩
      · have hi' : i < S := hi
        rw [r86z _ (by omega), r86z _ (by omega), r86z _ (by omega), r86z _ (by omega)]
        exact ⟨rfl, rfl, rfl, rfl, oz⟩
      · rw [kk 10 (by decide) (by decide), e4 3 (by decide), sI_ne (by decide), fC.2.2, hR.2]; rfl
      · show (sI (sI υ4 82 5 0) 82 7 0).1 82 5 = _
        rw [sI_o (by decide), sI_at]; rfl
    obtain ⟨hh, nx, h0, h1, h2, h3, h4, h5, H, hH⟩ := hP
    have c16 : σ1.1 16 0 = 0 := sI_at _ _ _ _
    have c161 : σ1.1 16 1 = σ.1 16 1 := by
      show (sI σb 16 0 0).1 16 1 = _
      rw [sI_o (by decide), e3 16 (by omega), sI_ne (by decide), fc 16 (by decide) (by decide) (by decide) (by decide) (by decide) (by decide)]
    refine ⟨_, _, _, cl, ?_, ⟨K, _, _, 0, hIC, ⟨0, nx, by decide, by decide, h2, ?_, ?_, ?_, fun _ _ => (0, 0, 0, 0), fun j hj => absurd hj (by omega)⟩⟩, fun k hk => (hkp k hk).keep hk (fun c hc => kA c (by omega) (by omega) (by omega) (by omega) (by omega) (by omega) (by omega) (by omega) (by omega) (by omega) (by omega) (by omega) (by omega)), ⟨0, by decide, ?_, ?_, fun j hj => absurd hj (by omega)⟩, hR.keep (kA 7 (by omega) (by decide) (by decide) (by decide) (by decide) (by decide) (by decide) (by decide) (by decide) (by decide) (by decide) (by decide) (by decide)) ?_, fun s hs4 => (hs s hs4).keep hs4 (fun c hc => kA c (by omega) (by omega) (by omega) (by omega) (by omega) (by omega) (by omega) (by omega) (by omega) (by omega) (by omega) (by omega) (by omega)) (fun c hc => by rw [kL])⟩
    · rw [md, mS, c10 10 (by decide) (by decide), ← kk 10 (by decide) (by decide), bS]
    · rw [kM 16 (by decide) (by decide) (by decide) (by decide) (by decide), c16]; rfl
    · rw [kM 16 (by decide) (by decide) (by decide) (by decide) (by decide), c161]; exact h4
    · exact sI_at _ _ _ _
    · rw [kM 1 (by decide) (by decide) (by decide) (by decide) (by decide)]
      show (sI σb 16 0 0).1 1 0 = _
      rw [sI_ne (by decide), e3 1 (by omega), sI_at]; rfl
    · show (sI (sI υ4 82 5 0) 82 7 0).1 82 11 = _
      rw [sI_o (by decide), sI_o (by decide)]
      show (s1 (s1 (s1 (sI υ 82 11 0) 83 _) 86 h') 86 _).1 82 11 = _
      rw [s1_ne (by decide), s1_ne (by decide), s1_ne (by decide), sI_at]; rfl
    · rw [kM 4 (by decide) (by decide) (by decide) (by decide) (by decide), c1 4 (by omega) (by decide) (by decide)]; exact fC.2.2
