/-! PURE U: cloth: the reader, in step with the model's -/
def FRC (σ τ : gS) : Prop := (∀ c, c ≠ 3 → c ≠ 4 → c ≠ 5 → c ≠ 6 → c ≠ 8 → c ≠ 9 → τ.1 c = σ.1 c) ∧ τ.2 = σ.2 ∧ τ.1 4 3 = σ.1 4 3
def FRM (σ υ : gS) : Prop := (∀ c, c ≠ 82 → c ≠ 84 → c ≠ 85 → υ.1 c = σ.1 c) ∧ υ.2 = σ.2 ∧ (∀ k, k ≠ 15 → k ≠ 16 → υ.1 82 k = σ.1 82 k)
theorem FRC.w {σ τ : gS} (h : FRC σ τ) {c k : Nat} {v : Int32} (hc : c = 3 ∨ (c = 4 ∧ k ≠ 3) ∨ c = 5 ∨ c = 6 ∨ c = 8 ∨ c = 9) : FRC σ (sI τ c k v) := by
  refine ⟨fun d h1 h2 h3 h4 h5 h6 => ?_, h.2.1, ?_⟩
  · rw [sI_ne (by omega)]; exact h.1 d h1 h2 h3 h4 h5 h6
  · by_cases e : c = 4
    · subst e; rw [sI_o (by omega)]; exact h.2.2
    · rw [sI_ne (Ne.symm e)]; exact h.2.2
theorem FRM.w {σ τ : gS} (h : FRM σ τ) {c k : Nat} {v : Int32} (hc : (c = 82 ∧ (k = 15 ∨ k = 16)) ∨ c = 84 ∨ c = 85) : FRM σ (sI τ c k v) := by
  refine ⟨fun d h1 h2 h3 => ?_, h.2.1, fun j h1 h2 => ?_⟩
  · rw [sI_ne (by omega)]; exact h.1 d h1 h2 h3
  · by_cases e : c = 82
    · subst e; rw [sI_o (by omega)]; exact h.2.2 j h1 h2
    · rw [sI_ne (Ne.symm e)]; exact h.2.2 j h1 h2
def TP (σ σ' : gS) (N : Nat) (B : Nat → Nat) : Prop := N ≤ 80 ∧ σ.1 1 0 = nI N ∧ (∀ j, j < N → σ.1 2 j = nI (B j)) ∧ σ'.1 82 11 = nI N ∧ (∀ j, j < N → σ'.1 91 j = nI (B j)) ∧ ∀ j, j < N → B j < 256
def ST (σ σ' : gS) (N : Nat) (τ υ : gS) (p : Nat) : Prop := FRC σ τ ∧ FRM σ' υ ∧ p ≤ N ∧ τ.1 3 1 = nI p ∧ υ.1 82 15 = nI p
def DT (τ υ : gS) (S e T d : Nat) : Prop := (∀ i, i < S → ∃ a w, (1 ≤ a ∧ a ≤ 5) ∧ w ≤ 7 ∧ τ.1 5 i = nI a ∧ υ.1 84 (3 + i) = nI a ∧ τ.1 6 i = nI w ∧ υ.1 85 i = nI w) ∧ (∀ j, j < e → ∃ a, a ≤ 3 ∧ τ.1 8 j = nI a ∧ υ.1 84 (11 + j) = nI a) ∧ (∀ t, t < T → ∃ m, m < 256 ∧ τ.1 9 t = nI m ∧ υ.1 84 (23 + t) = nI m) ∧ υ.1 84 0 = nI S ∧ υ.1 84 1 = nI d ∧ υ.1 84 2 = nI T
/-- what stands at a place -/
def hB (N : Nat) (B : Nat → Nat) (p : Nat) : Int32 := if p < N then nI (B p) else -1
theorem atI {σ σ' τ υ : gS} {N p : Nat} {B : Nat → Nat} (hT : TP σ σ' N B) (h : ST σ σ' N τ υ p) : F_X10_at_0 (τ.1 3 1) τ = some (hB N B p) := by
  obtain ⟨h80, a1, a2, -, -, -⟩ := hT
  obtain ⟨f, -, hp, e, -⟩ := h
  unfold F_X10_at_0 hB
  rw [e, if_neg (nn0 (by omega)), f.1 1 (by decide) (by decide) (by decide) (by decide) (by decide) (by decide), a1, if_nI_le (by omega) (by omega)]
  by_cases hpn : p < N
  · rw [if_neg (by omega), if_pos hpn, ck_t (inR_t (by omega) (by decide)), TN_nI (by omega), f.1 2 (by decide) (by decide) (by decide) (by decide) (by decide) (by decide), a2 p hpn]
  · rw [if_pos (by omega), if_neg hpn]
theorem hereM {σ σ' τ υ : gS} {N p : Nat} {B : Nat → Nat} (hT : TP σ σ' N B) (h : ST σ σ' N τ υ p) : F_X12_here_0 υ = some (hB N B p) := by
  obtain ⟨h80, -, -, a1, a2, -⟩ := hT
  obtain ⟨-, f, hp, -, e⟩ := h
  unfold F_X12_here_0 hB
  have e11 : υ.1 82 11 = nI N := by rw [f.2.2 11 (by decide) (by decide)]; exact a1
  rw [e, e11, if_nI_le (by omega) (by omega)]
  by_cases hpn : p < N
  · rw [if_neg (by omega), if_pos hpn, ck_t (inR_t (by omega) (by decide)), TN_nI (by omega), f.1 91 (by decide) (by decide) (by decide), a2 p hpn]
  · rw [if_pos (by omega), if_neg hpn]
theorem ST.mv {σ σ' τ υ : gS} {N p : Nat} (h : ST σ σ' N τ υ p) (hp : p < N) : ST σ σ' N (sI τ 3 1 (nI (p + 1))) (sI υ 82 15 (nI (p + 1))) (p + 1) := ⟨h.1.w (by decide), h.2.1.w (by decide), hp, sI_at _ _ _ _, sI_at _ _ _ _⟩
theorem ST.v {σ σ' τ υ : gS} {N p : Nat} {x : Int32} (h : ST σ σ' N τ υ p) : ST σ σ' N τ (sI υ 82 16 x) p := ⟨h.1, h.2.1.w (by decide), h.2.2.1, h.2.2.2.1, by rw [sI_o (by decide)]; exact h.2.2.2.2⟩
theorem ST.c {σ σ' τ υ : gS} {N p c k : Nat} {x : Int32} (h : ST σ σ' N τ υ p) (hc : (c = 4 ∧ k ≠ 3) ∨ c = 5 ∨ c = 6 ∨ c = 8 ∨ c = 9) : ST σ σ' N (sI τ c k x) υ p := ⟨h.1.w (by omega), h.2.1, h.2.2.1, by rw [sI_ne (by omega)]; exact h.2.2.2.1, h.2.2.2.2⟩
theorem ST.m {σ σ' τ υ : gS} {N p c k : Nat} {x : Int32} (h : ST σ σ' N τ υ p) (hc : c = 84 ∨ c = 85) : ST σ σ' N τ (sI υ c k x) p := ⟨h.1, h.2.1.w (by omega), h.2.2.1, h.2.2.2.1, by rw [sI_ne (by omega)]; exact h.2.2.2.2⟩
theorem DT.congr {τ υ τ' υ' : gS} {S e T d : Nat} (h : DT τ υ S e T d) (h5 : τ'.1 5 = τ.1 5) (h6 : τ'.1 6 = τ.1 6) (h8 : τ'.1 8 = τ.1 8) (h9 : τ'.1 9 = τ.1 9) (h84 : υ'.1 84 = υ.1 84) (h85 : υ'.1 85 = υ.1 85) : DT τ' υ' S e T d := by
  unfold DT; rw [h5, h6, h8, h9, h84, h85]; exact h
theorem signL {σ σ' τ υ : gS} {N p c : Nat} {B : Nat → Nat} (hT : TP σ σ' N B) (h : ST σ σ' N τ υ p) (hc : c < 256) :
    (F_X6_sign_0 (nI c) τ = some (0, τ) ∧ F_X12_eats_0 (nI c) υ = some (0, sI υ 82 15 (nI p)) ∧ ST σ σ' N τ (sI υ 82 15 (nI p)) p) ∨ (F_X6_sign_0 (nI c) τ = some (1, sI τ 3 1 (nI (p + 1))) ∧ F_X12_eats_0 (nI c) υ = some (1, sI υ 82 15 (nI (p + 1))) ∧ ST σ σ' N (sI τ 3 1 (nI (p + 1))) (sI υ 82 15 (nI (p + 1))) (p + 1)) := by
  have ha := atI hT h
  have hh := hereM hT h
  by_cases e : hB N B p = nI c
  · right
    have hpn : p < N := by
      by_cases q : p < N
      · exact q
      · unfold hB at e
        rw [if_neg q] at e
        have := congrArg Int32.toInt e
        rw [nI_toInt (by omega), show (-1 : Int32).toInt = -1 from rfl] at this
        omega
    refine ⟨?_, ?_, h.mv hpn⟩
    · unfold F_X6_sign_0
      rw [ha, ob_s, if_pos e, bd_e, h.2.2.2.1, show nI p + 1 = nI (p + 1) from nI_1 p]
    · unfold F_X12_eats_0 F_X12_eats_13 F_X12_eats_28
      rw [hh, ob_s, if_pos e, if_neg (by decide), bd_e, ck_t (by decide), h.2.2.2.2, show nI p + 1 = nI (p + 1) from nI_1 p]
  · left
    refine ⟨?_, ?_, h.1, h.2.1.w (by decide), h.2.2.1, h.2.2.2.1, sI_at _ _ _ _⟩
    · unfold F_X6_sign_0
      rw [ha, ob_s, if_neg e]
    · unfold F_X12_eats_0 F_X12_eats_13 F_X12_eats_28
      rw [hh, ob_s, if_neg e, if_pos rfl, bd_e, ck_t (by decide), h.2.2.2.2, Int32.add_zero]
theorem figL {σ σ' τ υ : gS} {N p a b : Nat} {B : Nat → Nat} (hT : TP σ σ' N B) (h : ST σ σ' N τ υ p) (ha : a < 256) (hb : b < 256) :
    (F_X6_figure_0 (nI a) (nI b) τ = some (-1, τ) ∧ F_X12_figure_0 (nI a) (nI b) υ = some (0, υ)) ∨ (∃ v, a ≤ v ∧ v ≤ b ∧ F_X6_figure_0 (nI a) (nI b) τ = some (nI v, sI τ 3 1 (nI (p + 1))) ∧ F_X12_figure_0 (nI a) (nI b) υ = some (1, sI (sI υ 82 16 (nI v)) 82 15 (nI (p + 1))) ∧ ST σ σ' N (sI τ 3 1 (nI (p + 1))) (sI (sI υ 82 16 (nI v)) 82 15 (nI (p + 1))) (p + 1)) := by
  have hat := atI hT h
  have hh := hereM hT h
  have h256 := hT.2.2.2.2.2
  have hx : ∃ z : Int, (hB N B p - 48).toInt = z ∧ ((p < N ∧ z = (B p : Int) - 48) ∨ (¬ p < N ∧ z = -49)) := by
    refine ⟨_, rfl, ?_⟩
    unfold hB
    by_cases q : p < N
    · left; rw [if_pos q]; exact ⟨q, pk_sub_toInt (b := 48) (by have := h256 p q; omega) (by decide)⟩
    · right; rw [if_neg q]; exact ⟨q, by decide⟩
  obtain ⟨z, hz, hcase⟩ := hx
  have ta : (nI a).toInt = a := nI_toInt (by omega)
  have tb : (nI b).toInt = b := nI_toInt (by omega)
  have hin : F_X12_in_0 (Int32.toInt64 (hB N B p - 48)) (Int32.toInt64 (nI a)) (Int32.toInt64 (nI b)) = bI (decide ((a : Int) ≤ z ∧ z ≤ b)) := by
    rw [inM, t64, t64, t64, hz, ta, tb]
  by_cases hg : (a : Int) ≤ z ∧ z ≤ b
  · right
    have hpn : p < N := by omega
    have hv : hB N B p - 48 = nI z.toNat := of_toInt (by rw [hz]; omega)
    refine ⟨z.toNat, by omega, by omega, ?_, ?_, h.v.mv hpn⟩
    · unfold F_X6_figure_0
      rw [hat, ob_s, bd_e, if_neg (by rw [Int32.lt_iff_toInt_lt, hz, ta]; omega), if_pos (by rw [Int32.le_iff_toInt_le, hz, tb]; exact hg.2), bd_e, h.2.2.2.1, show nI p + 1 = nI (p + 1) from nI_1 p, hv]
    · unfold F_X12_figure_0
      rw [hh, ob_s, hin, if_bP, if_pos hg, ob_s, bd_e, bd_e, sI_o (by decide), h.2.2.2.2, show nI p + 1 = nI (p + 1) from nI_1 p, hv]
  · left
    constructor
    · unfold F_X6_figure_0
      rw [hat, ob_s, bd_e]
      by_cases g1 : hB N B p - 48 < nI a
      · rw [if_pos g1]
      · rw [if_neg g1, if_neg (fun g2 => hg ?_)]
        rw [Int32.lt_iff_toInt_lt, hz, ta] at g1
        rw [Int32.le_iff_toInt_le, hz, tb] at g2
        omega
    · unfold F_X12_figure_0
      rw [hh, ob_s, hin, if_bP, if_neg hg]
theorem kdL (x : Int32) : F_X3_ofLetter_0 x = F_X12_kindBy_0 x ∧ ∃ k, k ≤ 5 ∧ F_X12_kindBy_0 x = nI k := by
  refine ⟨rfl, ?_⟩
  unfold F_X12_kindBy_0
  split
  · exact ⟨1, by decide, rfl⟩
  · split
    · exact ⟨5, by decide, rfl⟩
    · split
      · exact ⟨2, by decide, rfl⟩
      · split
        · exact ⟨3, by decide, rfl⟩
        · split
          · exact ⟨4, by decide, rfl⟩
          · exact ⟨0, by decide, rfl⟩
theorem kd0 : F_X12_kindBy_0 (-1) = 0 := by decide
/-- a square -/
theorem sqL {σ σ' τ υ : gS} {N p S : Nat} {B : Nat → Nat} (hT : TP σ σ' N B) (h : ST σ σ' N τ υ p) (hD : DT τ υ S 0 0 0) (hS : S < 8) :
    ∃ τ' υ' p', ST σ σ' N τ' υ' p' ∧ ((F_X6_readSquare_0 (nI S) τ = some (0, τ') ∧ F_X12_readsSquare_0 υ = some (0, υ')) ∨ (F_X6_readSquare_0 (nI S) τ = some (1, τ') ∧ F_X12_readsSquare_0 υ = some (1, υ') ∧ DT τ' υ' (S + 1) 0 0 0)) := by
  have hat := atI hT h
  have hh := hereM hT h
  obtain ⟨k1, k, hk5, k2⟩ := kdL (hB N B p)
  have ca : F_X6_readSquare_0 (nI S) τ = if nI k = 0 then (some (0, τ)) else (bd (sI τ 3 1 ((τ.1 3 1) + 1)) (fun σ28 => ob2 (F_X6_figure_0 0 7 σ28) (fun r35 σ35 => if r35 = (-1) then (some (0, σ35)) else (ck (inR (nI S) 8) (bd (sI σ35 5 (Int32.toNatClampNeg (nI S)) (nI k)) (fun σ55 => ck (inR (nI S) 8) (bd (sI σ55 6 (Int32.toNatClampNeg (nI S)) r35) (fun σ65 => some (1, σ65))))))))) := by
    unfold F_X6_readSquare_0
    rw [hat, ob_s, bd_e, k1, k2]
  have ma : F_X12_readsSquare_0 υ = if nI k = 0 then (some (0, υ)) else (bd (sI υ 82 15 ((υ.1 82 15) + 1)) (fun σ28 => ck (inR (3 + nI S) 26) (bd (sI σ28 84 (Int32.toNatClampNeg (3 + nI S)) (nI k)) (fun σ39 => ob2 (F_X12_figure_0 0 7 σ39) (fun r44 σ44 => if r44 = 0 then (some (0, σ44)) else (ck (inR (nI S) 8) (bd (sI σ44 85 (Int32.toNatClampNeg (nI S)) (σ44.1 82 16)) (fun σ61 => bd (sI σ61 84 0 ((σ61.1 84 0) + 1)) (fun σ71 => some (1, σ71)))))))))) := by
    unfold F_X12_readsSquare_0
    rw [bd_e, hh, ob_s, bd_e, k2, hD.2.2.2.1]
  rw [if_nI_z (by omega)] at ca ma
  by_cases h0 : k = 0
  · rw [if_pos h0] at ca ma
    exact ⟨τ, υ, p, h, Or.inl ⟨ca, ma⟩⟩
  · have hpn : p < N := by
      by_cases q : p < N
      · exact q
      · unfold hB at k2
        rw [if_neg q, kd0] at k2
        exact absurd k2.symm (nI_ne0 (by omega) (by omega))
    rw [if_neg h0, h.2.2.2.1, show nI p + 1 = nI (p + 1) from nI_1 p, bd_e] at ca
    rw [if_neg h0, h.2.2.2.2, show nI p + 1 = nI (p + 1) from nI_1 p, bd_e, L3, nI_add, ck_t (inR_t (by omega) (by decide)), TN_nI (by omega), bd_e] at ma
    have h1 : ST σ σ' N (sI τ 3 1 (nI (p + 1))) (sI (sI υ 82 15 (nI (p + 1))) 84 (3 + S) (nI k)) (p + 1) := (h.mv hpn).m (Or.inl rfl)
    rcases figL (a := 0) (b := 7) hT h1 (by decide) (by decide) with ⟨f1, f2⟩ | ⟨v, -, v7, f1, f2, h2⟩
    · have f1' : F_X6_figure_0 0 7 (sI τ 3 1 (nI (p + 1))) = _ := f1
      have f2' : F_X12_figure_0 0 7 (sI (sI υ 82 15 (nI (p + 1))) 84 (3 + S) (nI k)) = _ := f2
      rw [f1', ob2_s, if_pos rfl] at ca
      rw [f2', ob2_s, if_pos rfl] at ma
      exact ⟨_, _, _, h1, Or.inl ⟨ca, ma⟩⟩
    · have f1' : F_X6_figure_0 0 7 (sI τ 3 1 (nI (p + 1))) = _ := f1
      have f2' : F_X12_figure_0 0 7 (sI (sI υ 82 15 (nI (p + 1))) 84 (3 + S) (nI k)) = _ := f2
      have e0 : ∀ z : Int32, (sI (sI (sI (sI (sI υ 82 15 (nI (p + 1))) 84 (3 + S) (nI k)) 82 16 (nI v)) 82 15 (nI (p + 1 + 1))) 85 S z).1 84 0 = nI S := fun z => by
        rw [sI_ne (by decide), sI_ne (by decide), sI_ne (by decide), sI_o (by omega), sI_ne (by decide)]; exact hD.2.2.2.1
      have e16 : (sI (sI (sI (sI υ 82 15 (nI (p + 1))) 84 (3 + S) (nI k)) 82 16 (nI v)) 82 15 (nI (p + 1 + 1))).1 82 16 = nI v := by rw [sI_o (by decide), sI_at]
      have hrS : inR (nI S) 8 := inR_t hS (by decide)
      have tS : (nI S).toNatClampNeg = S := TN_nI (by omega)
      rw [f1', ob2_s, if_neg (fun e => by have := congrArg Int32.toInt e; rw [nI_toInt (by omega), show (-1 : Int32).toInt = -1 from rfl] at this; omega), ck_t hrS, bd_e, ck_t hrS, bd_e, tS] at ca
      rw [f2', ob2_s, if_neg (by decide), ck_t hrS, tS, e16, bd_e, e0, show nI S + 1 = nI (S + 1) from nI_1 S, bd_e] at ma
      refine ⟨_, _, _, ((h2.c (Or.inr (Or.inl rfl))).c (Or.inr (Or.inr (Or.inl rfl)))).m (Or.inr rfl) |>.m (Or.inl rfl), Or.inr ⟨ca, ma, fun i hi => ?_, fun j hj => absurd hj (by omega), fun t ht => absurd ht (by omega), sI_at _ _ _ _, ?_, ?_⟩⟩
      · by_cases hiS : i = S
        · subst hiS
          refine ⟨k, v, ⟨by omega, hk5⟩, v7, ?_, ?_, sI_at _ _ _ _, ?_⟩
          · rw [sI_ne (by decide), sI_at]
          · rw [sI_o (by omega), sI_ne (by decide), sI_ne (by decide), sI_ne (by decide), sI_at]
          · rw [sI_ne (by decide), sI_at]
        · obtain ⟨a, w, ha, hw, x1, x2, x3, x4⟩ := hD.1 i (by omega)
          refine ⟨a, w, ha, hw, ?_, ?_, ?_, ?_⟩
          · rw [sI_ne (by decide), sI_o hiS, sI_ne (by decide)]; exact x1
          · rw [sI_o (by omega), sI_ne (by decide), sI_ne (by decide), sI_ne (by decide), sI_o (by omega), sI_ne (by decide)]; exact x2
          · rw [sI_o hiS, sI_ne (by decide), sI_ne (by decide)]; exact x3
          · rw [sI_ne (by decide), sI_o hiS, sI_ne (by decide), sI_ne (by decide), sI_ne (by decide), sI_ne (by decide)]; exact x4
      · rw [sI_o (by decide), sI_ne (by decide), sI_ne (by decide), sI_ne (by decide), sI_o (by omega), sI_ne (by decide)]; exact hD.2.2.2.2.1
      · rw [sI_o (by decide), sI_ne (by decide), sI_ne (by decide), sI_ne (by decide), sI_o (by omega), sI_ne (by decide)]; exact hD.2.2.2.2.2
