/-! PURE C: item, copy, log, wishes -/
theorem putI {σ : gS} {c l i : Nat} (h : σ.1 c 0 = nI l) (hl : l < 4) (hi : i < 24) (v : Int64) : F_X8_put_0 c (nI i) v σ = some (F_X12_cut_0 (nI l) v, sJ σ (c + 1) i (F_X12_cut_0 (nI l) v)) := by
  unfold F_X8_put_0 F_X8_put_77 F_X12_cut_0
  have hr : inR (nI i) 24 := inR_t hi (by decide)
  simp only [ck_t hr, bd_e]
  rw [TN_nI (by omega), h]
  have e : ∀ v, (sJ σ (c + 1) i v).2 (c + 1) i = v := by
    intro v; rw [sJ_eq]; simp [vp_updL]
  simp only [e]
  have hl' : l = 0 ∨ l = 1 ∨ l = 2 ∨ l = 3 := by omega
  rcases hl' with rfl | rfl | rfl | rfl
  · rw [if_pos (by decide), if_pos (by decide)]
  · rw [if_neg (by decide), if_pos (by decide), if_neg (by decide), if_pos (by decide)]
  · rw [if_neg (by decide), if_neg (by decide), if_pos (by decide), if_neg (by decide), if_neg (by decide), if_pos (by decide)]
  · rw [if_neg (by decide), if_neg (by decide), if_neg (by decide), if_neg (by decide), if_neg (by decide), if_neg (by decide)]
theorem updL_eq (f : Nat → Int64) (k : Nat) (v : Int64) : vp_updL f k v k = v := by simp [vp_updL]
theorem updL_ne {f : Nat → Int64} {k j : Nat} {v : Int64} (h : j ≠ k) : vp_updL f k v j = f j := by simp [vp_updL, h]
theorem step_item {σ : gS} (hI : Inv σ) (x y z : Int32) (v : Int64) : ∃ r σ1 σ2, F_X11_item_0 x y z v σ = some (r, σ1) ∧ F_X12_item_0 x y z v σ1 = some (r, σ2) ∧ Inv σ2 := by
  unfold F_X11_item_0 F_X12_item_0
  rw [ishI, ilnI, ishM, if_bP, if_bP]
  by_cases hx : 0 ≤ x.toInt ∧ x.toInt < (4 : Nat)
  · rw [if_pos hx]
    by_cases hy : 0 ≤ y.toInt ∧ y.toInt < (4 : Nat)
    · rw [if_pos hy]
      obtain ⟨s, hs, rfl⟩ := of_rng hx (by decide)
      have hr : inR (nI s) 4 := inR_t hs (by decide)
      obtain ⟨o, o1, o2, o3⟩ := ISs_o.mp (hI.2.2.2.2 s hs)
      simp only [ck_t hr]
      rw [TN_nI (by omega), refI o1, bd_e]
      by_cases hf : rfz o y z 1 = 0
      · rw [if_pos hf]
        obtain ⟨l, n, rfl, rfl, h3, h4, h5⟩ := rfz_0 hf
        obtain ⟨a1, a2, a3, a4⟩ := o1
        obtain ⟨b1, b2, b3, b4⟩ := id o2
        simp only at a1 a2 a3 a4 b1 b2 b3 b4
        have h5' : z.toInt + 1 ≤ (n : Int) := h5
        obtain ⟨i, hi, rfl⟩ := of_rng (x := z) (n := n) (by omega) (by omega)
        rw [putI a1 a3 (by omega), ob2_s]
        let cv := F_X12_cut_0 (nI l) v
        have e92 : shM (sJ σ (56 + 2 * s + 1) i cv) s (some (l, n)) := o2
        refine ⟨cv, sJ σ (56 + 2 * s + 1) i cv, sJ (sJ σ (56 + 2 * s + 1) i cv) 94 (24 * s + i) cv, rfl, ?_, ?_⟩
        · rw [if_bP, if_pos ⟨hx, hy⟩, foundM hs e92 _ _ _ (by decide), ob_s, hf, if_pos (by decide), L24, pk_mul, nI_add]
          have hr2 : inR (nI (24 * s + i)) 96 := inR_t (by omega) (by decide)
          simp only [ck_t hr2]
          rw [TN_nI (by omega), bd_e, sJ_eq, updL_eq]
        · refine hI.sheet s (fun c c1 c2 c3 => rfl) (fun c c1 c2 => ?_) (fun j hj => ⟨rfl, rfl⟩) (fun j hj => ?_) hs (Or.inr ⟨l, n, a3, a4, a1, a2, b1, b2, fun j hj => ?_⟩)
          · rw [sJ_ne c2, sJ_ne c1]
          · rw [sJ_eq, updL_ne (by omega), sJ_ne (by omega)]
          · rw [sJ_ne (by omega), sJ_eq, sJ_eq]
            by_cases hj' : j = i
            · subst hj'; rw [updL_eq, updL_eq]
            · rw [updL_ne hj', updL_ne (by omega), sJ_ne (by omega)]; exact o3 (by simp) j hj
      · rw [if_neg hf]
        refine ⟨(rfz o y z 1).toInt64, σ, σ, rfl, ?_, hI⟩
        rw [if_bP, if_pos ⟨hx, hy⟩, foundM hs o2 _ _ _ (by decide), ob_s, if_neg (rfz_n hf)]
    · rw [if_neg hy]
      exact ⟨-1, σ, σ, rfl, by rw [if_bP, if_neg (fun q => hy q.2)], hI⟩
  · rw [if_neg hx]
    exact ⟨-1, σ, σ, rfl, by rw [if_bP, if_neg (fun q => hx q.1)], hI⟩
/-! copy -/
theorem copy111 {σ : gS} {s i t j n : Nat} (hs : s < 4) (ht : t < 4) (h1 : i + n ≤ 24) (h2 : j + n ≤ 24) : F_X12_copy_111 fu (nI s) (nI i) (nI t) (nI j) (nI n) 0 σ = some (nI n, s2 σ 94 (va_cpy (σ.2 94) (σ.2 94) (24 * s + i) (24 * t + j) n)) := by
  by_cases hd : j ≤ i
  · have es : ∀ k, k < n → vp_updL (va_cpy (σ.2 94) (σ.2 94) (24 * s + i) (24 * t + j) k) (24 * t + j + k) (va_cpy (σ.2 94) (σ.2 94) (24 * s + i) (24 * t + j) k (24 * s + i + k)) = va_cpy (σ.2 94) (σ.2 94) (24 * s + i) (24 * t + j) (k + 1) := by
      intro k hk
      funext a
      unfold vp_updL va_cpy
      by_cases ha : a = 24 * t + j + k
      · rw [if_pos ha, if_neg (by omega), if_pos (by omega), show 24 * s + i + (a - (24 * t + j)) = 24 * s + i + k by omega]
      · rw [if_neg ha]
        by_cases hb : 24 * t + j ≤ a ∧ a < 24 * t + j + k
        · rw [if_pos hb, if_pos (by omega)]
        · rw [if_neg hb, if_neg (by omega)]
    have key : ∀ (m k f : Nat), k + m = n → m < f → F_X12_copy_111 f (nI s) (nI i) (nI t) (nI j) (nI n) (nI k) (s2 σ 94 (va_cpy (σ.2 94) (σ.2 94) (24 * s + i) (24 * t + j) k)) = some (nI n, s2 σ 94 (va_cpy (σ.2 94) (σ.2 94) (24 * s + i) (24 * t + j) n)) := by
      intro m
      induction m with
      | zero =>
        intro k f hk hf
        obtain ⟨f, rfl⟩ : ∃ g, f = g + 1 := ⟨f - 1, by omega⟩
        rw [F_X12_copy_111, if_pos (nI_le (by omega) (by omega)), show k = n by omega]
      | succ m ih =>
        intro k f hk hf
        obtain ⟨f, rfl⟩ : ∃ g, f = g + 1 := ⟨f - 1, by omega⟩
        rw [F_X12_copy_111, if_neg (nI_ge (by omega) (by omega)), if_pos (nI_le hd (by omega))]
        unfold F_X12_copy_136
        rw [L24, pk_mul, nI_add, nI_add, pk_mul, nI_add, nI_add, ck_t (inR_t (by omega) (by decide)), ck_t (inR_t (by omega) (by decide)), TN_nI (by omega), TN_nI (by omega), s2_eq, sJ_s2', es k (by omega), bd_e, bd_e, show nI k + 1 = nI (k + 1) from nI_1 k]
        exact ih (k + 1) f (by omega) (by omega)
    have := key n 0 fu (by omega) (by unfold fu; omega)
    have e0 : va_cpy (σ.2 94) (σ.2 94) (24 * s + i) (24 * t + j) 0 = σ.2 94 := by funext k; unfold va_cpy; rw [if_neg (by omega)]
    rw [e0, s2_id] at this
    exact this
  · let g : Nat → Nat → Int64 := fun k a => if 24 * t + j + n - k ≤ a ∧ a < 24 * t + j + n then σ.2 94 (24 * s + i + (a - (24 * t + j))) else σ.2 94 a
    have es : ∀ k, k < n → vp_updL (g k) (24 * t + j + (n - 1 - k)) (g k (24 * s + i + (n - 1 - k))) = g (k + 1) := by
      intro k hk
      funext a
      show (if a = 24 * t + j + (n - 1 - k) then (if 24 * t + j + n - k ≤ 24 * s + i + (n - 1 - k) ∧ 24 * s + i + (n - 1 - k) < 24 * t + j + n then _ else σ.2 94 (24 * s + i + (n - 1 - k))) else (if 24 * t + j + n - k ≤ a ∧ a < 24 * t + j + n then σ.2 94 (24 * s + i + (a - (24 * t + j))) else σ.2 94 a)) = (if 24 * t + j + n - (k + 1) ≤ a ∧ a < 24 * t + j + n then σ.2 94 (24 * s + i + (a - (24 * t + j))) else σ.2 94 a)
      by_cases ha : a = 24 * t + j + (n - 1 - k)
      · rw [if_pos ha, if_neg (by omega), if_pos (by omega), show 24 * s + i + (a - (24 * t + j)) = 24 * s + i + (n - 1 - k) by omega]
      · rw [if_neg ha]
        by_cases hb : 24 * t + j + n - k ≤ a ∧ a < 24 * t + j + n
        · rw [if_pos hb, if_pos (by omega)]
        · rw [if_neg hb, if_neg (by omega)]
    have key : ∀ (m k f : Nat), k + m = n → m < f → F_X12_copy_111 f (nI s) (nI i) (nI t) (nI j) (nI n) (nI k) (s2 σ 94 (g k)) = some (nI n, s2 σ 94 (g n)) := by
      intro m
      induction m with
      | zero =>
        intro k f hk hf
        obtain ⟨f, rfl⟩ : ∃ g, f = g + 1 := ⟨f - 1, by omega⟩
        rw [F_X12_copy_111, if_pos (nI_le (by omega) (by omega)), show k = n by omega]
      | succ m ih =>
        intro k f hk hf
        obtain ⟨f, rfl⟩ : ∃ g, f = g + 1 := ⟨f - 1, by omega⟩
        rw [F_X12_copy_111, if_neg (nI_ge (by omega) (by omega)), if_neg (nI_ge (by omega) (by omega))]
        unfold F_X12_copy_136
        rw [show nI n - 1 - nI k = nI (n - 1 - k) by rw [L1, pk_sub (by omega), pk_sub (by omega)], L24, pk_mul, nI_add, nI_add, pk_mul, nI_add, nI_add, ck_t (inR_t (by omega) (by decide)), ck_t (inR_t (by omega) (by decide)), TN_nI (by omega), TN_nI (by omega), s2_eq, sJ_s2', es k (by omega), bd_e, bd_e, show nI k + 1 = nI (k + 1) from nI_1 k]
        exact ih (k + 1) f (by omega) (by omega)
    have := key n 0 fu (by omega) (by unfold fu; omega)
    have e0 : g 0 = σ.2 94 := by
      funext a
      show (if 24 * t + j + n - 0 ≤ a ∧ a < 24 * t + j + n then _ else σ.2 94 a) = _
      rw [if_neg (by omega)]
    have en : g n = va_cpy (σ.2 94) (σ.2 94) (24 * s + i) (24 * t + j) n := by
      funext a
      show (if 24 * t + j + n - n ≤ a ∧ a < 24 * t + j + n then _ else σ.2 94 a) = _
      unfold va_cpy
      rw [show 24 * t + j + n - n = 24 * t + j by omega]
    rw [e0, s2_id, en] at this
    exact this
theorem sh_lt {σ : gS} {s : Nat} {o : Option (Nat × Nat)} (h : shM σ s o) : (σ.1 92 s < 0) ↔ o = none := by
  cases o with
  | none =>
    have h : σ.1 92 s = -1 := h
    rw [h]; exact ⟨fun _ => rfl, fun _ => by decide⟩
  | some p => rw [h.1]; exact ⟨fun q => absurd q (nI_pos (by have := h.2.2.2; omega)), fun q => by cases q⟩
theorem sh_ge {σ : gS} {s : Nat} {o : Option (Nat × Nat)} (h : shM σ s o) : (0 ≤ σ.1 92 s) ↔ o ≠ none := by
  cases o with
  | none =>
    have h : σ.1 92 s = -1 := h
    rw [h]; exact ⟨fun q => absurd q (by decide), fun q => absurd rfl q⟩
  | some p => rw [h.1]; exact ⟨fun _ q => (by cases q), fun _ => nI_pos' (by have := h.2.2.2; omega)⟩
theorem cpyL_in {f g : Nat → Int64} {i j n k : Nat} (h : k < n) : va_cpy f g i j n (j + k) = f (i + k) := by
  unfold va_cpy; rw [if_pos (by omega), show i + (j + k - j) = i + k by omega]
theorem cpyL_out {f g : Nat → Int64} {i j n k : Nat} (h : k < j ∨ j + n ≤ k) : va_cpy f g i j n k = g k := by
  unfold va_cpy; rw [if_neg (by omega)]
theorem step_copy {σ : gS} (hI : Inv σ) (x a y b k : Int32) : ∃ r σ1 σ2, F_X11_copy_0 x a y b k σ = some (r, σ1) ∧ F_X12_copy_0 x a y b k σ1 = some (r, σ2) ∧ Inv σ2 := by
  unfold F_X11_copy_0 F_X12_copy_0
  rw [ishI, ishI, inL x 0 3 (p := 0) (q := 3) rfl rfl, inL y 0 3 (p := 0) (q := 3) rfl rfl, if_bP, if_bP]
  by_cases hx : 0 ≤ x.toInt ∧ x.toInt < (4 : Nat)
  · rw [if_pos hx]
    by_cases hy : 0 ≤ y.toInt ∧ y.toInt < (4 : Nat)
    · rw [if_pos hy]
      obtain ⟨s, hs, rfl⟩ := of_rng hx (by decide)
      obtain ⟨t, ht, rfl⟩ := of_rng hy (by decide)
      have hr : inR (nI s) 4 := inR_t hs (by decide)
      have hr' : inR (nI t) 4 := inR_t ht (by decide)
      obtain ⟨o, o1, o2, o3⟩ := ISs_o.mp (hI.2.2.2.2 s hs)
      obtain ⟨p, p1, p2, p3⟩ := ISs_o.mp (hI.2.2.2.2 t ht)
      simp only [ck_t hr, ck_t hr']
      rw [TN_nI (show s < 2 ^ 31 by omega), TN_nI (show t < 2 ^ 31 by omega), nothI o1, nothI p1, if_bP, if_bP]
      have mg : ∀ σ1 : gS, (if bI (decide (0 ≤ (nI s).toInt ∧ (nI s).toInt ≤ 3)) = 0 then some ((-1 : Int32), σ1) else (if bI (decide (0 ≤ (nI t).toInt ∧ (nI t).toInt ≤ 3)) = 0 then some (-1, σ1) else (if σ1.1 92 s < 0 then some (-11, σ1) else (if 0 ≤ σ1.1 92 t then (if σ1.1 93 s = σ1.1 93 t then (if k < 0 then some (-13, σ1) else (ob (F_X12_found_0 (nI s) (σ1.1 93 s) a k σ1) (fun r81 => if r81 < 0 then some (-13, σ1) else (ob (F_X12_found_0 (nI t) (σ1.1 93 t) b k σ1) (fun r99 => if 0 ≤ r99 then F_X12_copy_111 fu (nI s) a (nI t) b k 0 σ1 else some (-13, σ1)))))) else some (-12, σ1)) else some (-11, σ1))))) = (if σ1.1 92 s < 0 then some (-11, σ1) else (if 0 ≤ σ1.1 92 t then (if σ1.1 93 s = σ1.1 93 t then (if k < 0 then some (-13, σ1) else (ob (F_X12_found_0 (nI s) (σ1.1 93 s) a k σ1) (fun r81 => if r81 < 0 then some (-13, σ1) else (ob (F_X12_found_0 (nI t) (σ1.1 93 t) b k σ1) (fun r99 => if 0 ≤ r99 then F_X12_copy_111 fu (nI s) a (nI t) b k 0 σ1 else some (-13, σ1)))))) else some (-12, σ1)) else some (-11, σ1))) := by
        intro σ1
        rw [if_bP, if_pos (by omega), if_bP, if_pos (by omega)]
      simp only [mg]
      by_cases ho : o = none
      · rw [if_pos ho]
        exact ⟨-11, σ, σ, rfl, by rw [if_pos ((sh_lt o2).mpr ho)], hI⟩
      · rw [if_neg ho]
        by_cases hp : p = none
        · rw [if_pos hp]
          exact ⟨-11, σ, σ, rfl, by rw [if_neg (fun q => ho ((sh_lt o2).mp q)), if_neg (fun q => (sh_ge p2).mp q hp)], hI⟩
        · rw [if_neg hp]
          have m1 : ∀ (α : Type) (u v : α), (if σ.1 92 s < 0 then u else v) = v := fun α u v => if_neg (fun q => ho ((sh_lt o2).mp q))
          have m2 : ∀ (α : Type) (u v : α), (if 0 ≤ σ.1 92 t then u else v) = u := fun α u v => if_pos ((sh_ge p2).mpr hp)
          obtain ⟨⟨l, n⟩, rfl⟩ : ∃ z, o = some z := by cases o with | none => exact absurd rfl ho | some z => exact ⟨z, rfl⟩
          obtain ⟨⟨l', n'⟩, rfl⟩ : ∃ z, p = some z := by cases p with | none => exact absurd rfl hp | some z => exact ⟨z, rfl⟩
          obtain ⟨a1, a2, a3, a4⟩ := id o1
          obtain ⟨b1, b2, b3, b4⟩ := id o2
          obtain ⟨c1, c2, c3, c4⟩ := id p1
          obtain ⟨d1, d2, d3, d4⟩ := id p2
          simp only at a1 a2 a3 a4 b1 b2 b3 b4 c1 c2 c3 c4 d1 d2 d3 d4
          rw [a1, c1]
          by_cases hl : l = l'
          · subst hl
            rw [if_pos rfl, holdsI a2 a4, holdsI c2 c4, if_bP, if_bP]
            by_cases hk : k < 0
            · have hk' := lt0.mp hk
              rw [if_neg (by omega)]
              exact ⟨-13, σ, σ, rfl, by rw [m1, m2, b2, d2, if_pos rfl, if_pos hk], hI⟩
            · have hk' : 0 ≤ k.toInt := by rw [lt0] at hk; omega
              have f1 : rfz (some (l, n)) (nI l) a k = if 0 ≤ a.toInt ∧ 0 ≤ k.toInt ∧ a.toInt + k.toInt ≤ (n : Int) then 0 else -13 := if_pos rfl
              have f2 : rfz (some (l, n')) (nI l) b k = if 0 ≤ b.toInt ∧ 0 ≤ k.toInt ∧ b.toInt + k.toInt ≤ (n' : Int) then 0 else -13 := if_pos rfl
              by_cases g1 : 0 ≤ a.toInt ∧ 0 ≤ k.toInt ∧ a.toInt + k.toInt ≤ (n : Int)
              · rw [if_pos g1]
                by_cases g2 : 0 ≤ b.toInt ∧ 0 ≤ k.toInt ∧ b.toInt + k.toInt ≤ (n' : Int)
                · rw [if_pos g2]
                  obtain ⟨N, hN, rfl⟩ := of_rng (x := k) (n := 25) (by omega) (by decide)
                  obtain ⟨i, hi, rfl⟩ := of_rng (x := a) (n := 25) (by omega) (by decide)
                  obtain ⟨j, hj, rfl⟩ := of_rng (x := b) (n := 25) (by omega) (by decide)
                  rw [nI_toInt (by omega), nI_toInt (by omega)] at g1 g2
                  rw [ck_t (by
                    unfold cpR
                    rw [TN_nI (by omega), TN_nI (by omega), TN_nI (by omega)]
                    exact ⟨nI_pos (by omega), nI_pos (by omega), nI_pos (by omega), by omega, by omega⟩), bd_e]
                  let τ1 := cJ σ (56 + 2 * s + 1) (nI i) (56 + 2 * t + 1) (nI j) (nI N)
                  have e1 : τ1.1 = σ.1 := rfl
                  have e94 : τ1.2 94 = σ.2 94 := cJ_ne (by omega)
                  let τ2 := s2 τ1 94 (va_cpy (σ.2 94) (σ.2 94) (24 * s + i) (24 * t + j) N)
                  refine ⟨nI N, τ1, τ2, rfl, ?_, ?_⟩
                  · have f1' : rfz (some (l, n)) (nI l) (nI i) (nI N) = 0 := by rw [f1, if_pos (by rw [nI_toInt (by omega), nI_toInt (by omega)]; exact g1)]
                    have f2' : rfz (some (l, n')) (nI l) (nI j) (nI N) = 0 := by rw [f2, if_pos (by rw [nI_toInt (by omega), nI_toInt (by omega)]; exact g2)]
                    have o2' : shM τ1 s (some (l, n)) := o2
                    have p2' : shM τ1 t (some (l, n')) := p2
                    have q1 : τ1.1 93 s = nI l := b2
                    have q2 : τ1.1 93 t = nI l := d2
                    rw [if_neg (fun q => ho ((sh_lt o2').mp q)), if_pos ((sh_ge p2').mpr hp), q1, q2, if_pos rfl, if_neg hk, foundM hs o2' _ _ _ hk', ob_s, f1', if_neg (by decide), foundM ht p2' _ _ _ hk', ob_s, f2', if_pos (by decide), copy111 hs ht (by omega) (by omega), e94]
                  · refine hI.sheet t (fun c _ _ _ => rfl) (fun c z1 z2 => ?_) (fun _ _ => ⟨rfl, rfl⟩) (fun z hz => ?_) ht (Or.inr ⟨l, n', c3, c4, c1, c2, d1, d2, fun z hz => ?_⟩)
                    · show (s2 τ1 94 _).2 c = _
                      rw [s2_ne z2]; exact cJ_ne z1
                    · show (s2 τ1 94 _).2 94 z = _
                      rw [s2_eq, cpyL_out (by omega)]
                    · show (s2 τ1 94 _).2 (56 + 2 * t + 1) z = (s2 τ1 94 _).2 94 (24 * t + z)
                      rw [s2_ne (by omega), s2_eq]
                      show (cJ σ (56 + 2 * s + 1) (nI i) (56 + 2 * t + 1) (nI j) (nI N)).2 (56 + 2 * t + 1) z = _
                      rw [cJ_eq, TN_nI (by omega), TN_nI (by omega), TN_nI (by omega)]
                      by_cases hin : j ≤ z ∧ z < j + N
                      · obtain ⟨u, rfl⟩ : ∃ u, z = j + u := ⟨z - j, by omega⟩
                        rw [cpyL_in (by omega), show 24 * t + (j + u) = 24 * t + j + u by omega, cpyL_in (by omega), o3 (by simp) _ (by omega), show 24 * s + (i + u) = 24 * s + i + u by omega]
                      · rw [cpyL_out (by omega), cpyL_out (by omega)]; exact p3 (by simp) z hz
                · rw [if_neg g2]
                  refine ⟨-13, σ, σ, rfl, ?_, hI⟩
                  rw [m1, m2, b2, d2, if_pos rfl, if_neg hk, foundM hs o2 _ _ _ hk', ob_s, f1, if_pos g1, if_neg (by decide), foundM ht p2 _ _ _ hk', ob_s, f2, if_neg g2, if_neg (by decide)]
              · rw [if_neg g1]
                refine ⟨-13, σ, σ, rfl, ?_, hI⟩
                rw [m1, m2, b2, d2, if_pos rfl, if_neg hk, foundM hs o2 _ _ _ hk', ob_s, f1, if_neg g1, if_pos (by decide)]
          · have hl2 : ¬ nI l = nI l' := fun q => hl ((nI_eq (by omega) (by omega)).mp q)
            rw [if_neg hl2]
            exact ⟨-12, σ, σ, rfl, by rw [m1, m2, b2, d2, if_neg hl2], hI⟩
    · rw [if_neg hy]
      exact ⟨-1, σ, σ, rfl, by rw [if_bP, if_pos (by omega), if_bP, if_neg (by omega)], hI⟩
  · rw [if_neg hx]
    exact ⟨-1, σ, σ, rfl, by rw [if_bP, if_neg (by omega)], hI⟩
