/-! PURE H: rows, shades: the class -/
def shQ (K : CS) (i : Nat) : Nat → Nat → QD
  | 0, _ => (0, 0, 0, 0)
  | n + 1, p => dyQ K i (p % kD K) (shQ K i n (p / kD K))
theorem shQ_ok (K : CS) (i : Nat) : ∀ n p, okQ (shQ K i n p)
  | 0, _ => by unfold shQ okQ; decide
  | n + 1, p => dyQ_ok (shQ_ok K i n _)
theorem shQ_w (K : CS) (i : Nat) : ∀ n p, (shQ K i n p).2.2.2 = 0
  | 0, _ => rfl
  | n + 1, p => by show (dyQ K i _ (shQ K i n _)).2.2.2 = 0; exact shQ_w K i n _
/-- matches, shades met, the least match, among the first c codes -/
def mtB (K : CS) (i n : Nat) (v : QD) (c : Nat) : Bool := decide (shQ K i n c = v)
def ctN (K : CS) (i n : Nat) (v : QD) (c : Nat) : Nat := smN c (fun x => if mtB K i n v x then 1 else 0)
def htB (K : CS) (i n : Nat) : Nat → Nat → Nat → Nat → Bool
  | 0, _, _, _ => false
  | c + 1, x, y, z => htB K i n c x y z || decide (shQ K i n c = (x, y, z, 0))
def lmN (K : CS) (i n : Nat) (v : QD) : Nat → Nat
  | 0 => 0
  | c + 1 => if 0 < ctN K i n v c then lmN K i n v c else c
def S3 (h : Nat → Nat → Nat → Bool) : Nat := smN 10 (fun x => smN 10 (fun y => smN 10 (fun z => if h x y z then 1 else 0)))
theorem smN_congr {n : Nat} {f g : Nat → Nat} (h : ∀ i, i < n → f i = g i) : smN n f = smN n g := by
  induction n with
  | zero => rfl
  | succ n ih => unfold smN; rw [ih (fun i hi => h i (by omega)), h n (by omega)]
theorem smN_up {n : Nat} {f g : Nat → Nat} {k : Nat} (hk : k < n) (h : ∀ i, i < n → i ≠ k → f i = g i) (hg : g k = f k + 1) : smN n g = smN n f + 1 := by
  induction n with
  | zero => omega
  | succ n ih =>
    unfold smN
    by_cases hn : k = n
    · subst hn
      rw [smN_congr (f := g) (g := f) (fun i hi => (h i (by omega) (by omega)).symm), hg]; omega
    · rw [ih (by omega) (fun i hi hne => h i (by omega) hne), h n (by omega) (Ne.symm hn)]; omega
theorem S3_new {h : Nat → Nat → Nat → Bool} {a b c : Nat} (ha : a < 10) (hb : b < 10) (hc : c < 10) (hn : h a b c = false) : S3 (fun x y z => h x y z || decide ((a, b, c, (0 : Nat)) = (x, y, z, (0 : Nat)))) = S3 h + 1 := by
  unfold S3
  refine smN_up ha (fun x hx hxa => ?_) ?_
  · refine smN_congr (fun y hy => smN_congr (fun z hz => ?_))
    have : ¬ ((a, b, c, (0 : Nat)) = (x, y, z, (0 : Nat))) := fun q => hxa (Prod.mk.inj q).1.symm
    simp [this]
  · refine smN_up hb (fun y hy hyb => smN_congr (fun z hz => ?_)) ?_
    · have : ¬ ((a, b, c, (0 : Nat)) = (a, y, z, (0 : Nat))) := fun q => hyb (Prod.mk.inj (Prod.mk.inj q).2).1.symm
      simp [this]
    · refine smN_up hc (fun z hz hzc => ?_) ?_
      · have : ¬ ((a, b, c, (0 : Nat)) = (a, b, z, (0 : Nat))) := fun q => hzc (Prod.mk.inj (Prod.mk.inj (Prod.mk.inj q).2).2).1.symm
        simp [this]
      · simp [hn]
theorem S3_old {h : Nat → Nat → Nat → Bool} {a b c : Nat} (hn : h a b c = true) : S3 (fun x y z => h x y z || decide ((a, b, c, (0 : Nat)) = (x, y, z, (0 : Nat)))) = S3 h := by
  unfold S3
  refine smN_congr (fun x hx => smN_congr (fun y hy => smN_congr (fun z hz => ?_)))
  by_cases q : (a, b, c, (0 : Nat)) = (x, y, z, (0 : Nat))
  · obtain ⟨rfl, q2⟩ := Prod.mk.inj q
    obtain ⟨rfl, q3⟩ := Prod.mk.inj q2
    obtain ⟨rfl, -⟩ := Prod.mk.inj q3
    simp [hn]
  · simp [q]
/-- the class's picture behind the first c codes -/
def BP (K : CS) (i n : Nat) (v : QD) (c : Nat) (τ : gS) : Prop := τ.1 73 0 = nI (ctN K i n v c) ∧ τ.1 73 1 = nI (S3 (htB K i n c)) ∧ (∀ x y z, x ≤ 9 → y ≤ 9 → z ≤ 9 → (τ.2 76 ((x + 16 * y + 256 * z) / 64)).toBitVec.getLsbD ((x + 16 * y + 256 * z) % 64) = htB K i n c x y z) ∧ (0 < ctN K i n v c → ∀ j, j < n → τ.1 74 j = nI (lmN K i n v c / kD K ^ (n - 1 - j) % kD K))
theorem b1L : ∀ j, j < 64 → ((1 : Int64) <<< ((nI j).toInt64 &&& (63 : Int64))).toBitVec = BitVec.twoPow 64 j := by decide +kernel
theorem and0 {w m : Int64} {j : Nat} (hj : j < 64) (hm : m.toBitVec = BitVec.twoPow 64 j) : (w &&& m = 0) ↔ w.toBitVec.getLsbD j = false := by
  rw [← Int64.toBitVec_inj]
  show (w.toBitVec &&& m.toBitVec = 0#64) ↔ _
  rw [hm, BitVec.and_twoPow]
  by_cases h : w.toBitVec.getLsbD j = true
  · rw [if_pos h]
    constructor
    · intro q
      have := congrArg (fun x => x.getLsbD j) q
      simp [BitVec.getLsbD_twoPow, hj] at this
    · intro q; rw [q] at h; cases h
  · rw [if_neg h]
    exact ⟨fun _ => by simpa using h, fun _ => rfl⟩
theorem or_bit {w m : Int64} {j : Nat} (hj : j < 64) (hm : m.toBitVec = BitVec.twoPow 64 j) (k : Nat) : (w ||| m).toBitVec.getLsbD k = (w.toBitVec.getLsbD k || decide (k = j)) := by
  show (w.toBitVec ||| m.toBitVec).getLsbD k = _
  rw [hm, BitVec.getLsbD_or, BitVec.getLsbD_twoPow]
  by_cases h : k = j
  · subst h; simp [hj]
  · simp [h, Ne.symm h]
def BF (τ τ' : gS) : Prop := (∀ c, c ≠ 73 → c ≠ 74 → c ≠ 75 → τ'.1 c = τ.1 c) ∧ (∀ c, c ≠ 76 → τ'.2 c = τ.2 c)
theorem BF.rf (τ : gS) : BF τ τ := ⟨fun _ _ _ _ => rfl, fun _ _ => rfl⟩
theorem BF.tr {a b c : gS} (h : BF a b) (g : BF b c) : BF a c := ⟨fun x h1 h2 h3 => (g.1 x h1 h2 h3).trans (h.1 x h1 h2 h3), fun x h1 => (g.2 x h1).trans (h.2 x h1)⟩
theorem ctN_s (K : CS) (i n : Nat) (v : QD) (c : Nat) : ctN K i n v (c + 1) = ctN K i n v c + (if mtB K i n v c then 1 else 0) := rfl
theorem ctN_le (K : CS) (i n : Nat) (v : QD) (c : Nat) : ctN K i n v c ≤ c := by
  induction c with
  | zero => exact Nat.le_refl _
  | succ c ih => rw [ctN_s]; split <;> omega
theorem S3_le (h : Nat → Nat → Nat → Bool) : S3 h ≤ 1000 := by
  have b1 : ∀ (n : Nat) (f : Nat → Nat) (m : Nat), (∀ i, i < n → f i ≤ m) → smN n f ≤ n * m := by
    intro n f m hf
    induction n with
    | zero => simp [smN]
    | succ n ih => unfold smN; have := ih (fun i hi => hf i (by omega)); have := hf n (by omega); rw [Nat.succ_mul]; omega
  unfold S3
  refine Nat.le_trans (b1 10 _ 100 (fun x _ => Nat.le_trans (b1 10 _ 10 (fun y _ => Nat.le_trans (b1 10 _ 1 (fun z _ => by split <;> omega)) (by decide))) (by decide))) (by decide)
theorem cd_3 {q : QD} (hw : q.2.2.2 = 0) : cd q = q.1 + 16 * q.2.1 + 256 * q.2.2.1 := by unfold cd; rw [hw]; omega
theorem lgEQ0 (a : Int64) : (lg_cmp a 0 = 0) ↔ a = 0 := lg_cmp_eq a 0
/-- a leaf: the code c is noted -/
theorem noteI {K : CS} {i n c : Nat} {v : QD} {τ : gS} (hn : n ≤ 5) (hv : okQ v) (hw : v.2.2.2 = 0) (hc : c < 100000) (hB : BP K i n v c τ) (hrow : ∀ j, j < n → τ.1 75 j = nI (c / kD K ^ (n - 1 - j) % kD K)) :
    ∃ τ', F_X0_note_0 (nI (cd (shQ K i n c))) (nI n) (nI (cd v)) τ = some τ' ∧ BP K i n v (c + 1) τ' ∧ BF τ τ' ∧ τ'.1 75 = τ.1 75 := by
  obtain ⟨b1, b2, b3, b4⟩ := hB
  have okq := shQ_ok K i n c
  have hq0 := shQ_w K i n c
  obtain ⟨k1, k2, k3, -⟩ := id okq
  generalize hQ : shQ K i n c = Q at *
  have hcd := cd_3 hq0
  have hlt : cd Q < 4096 := by rw [hcd]; omega
  have hcl := ctN_le K i n v c
  have hs3 := S3_le (htB K i n c)
  have hev : (Q.1, Q.2.1, Q.2.2.1, (0 : Nat)) = Q := by rw [← hq0]
  -- the bit
  have e63 : nI (cd Q) &&& 63 = nI (cd Q % 64) := by rw [show (64 : Nat) = 2 ^ 6 from rfl]; exact pk_andN (by omega) 6 (by decide)
  have e6 : nI (cd Q) >>> ((6 : Int32) &&& (31 : Int32)) = nI (cd Q / 64) := by rw [show (64 : Nat) = 2 ^ 6 from rfl]; exact pk_shrN (by omega) _ 6 (by decide)
  have hbit := b1L (cd Q % 64) (Nat.mod_lt _ (by decide))
  generalize hM : (1 : Int64) <<< ((nI (cd Q % 64)).toInt64 &&& (63 : Int64)) = M at hbit
  have hj64 : cd Q % 64 < 64 := Nat.mod_lt _ (by decide)
  have hseen : (τ.2 76 (cd Q / 64)).toBitVec.getLsbD (cd Q % 64) = htB K i n c Q.1 Q.2.1 Q.2.2.1 := by rw [hcd]; exact b3 _ _ _ k1 k2 k3
  have hs : ∀ x y z, htB K i n (c + 1) x y z = (htB K i n c x y z || decide (Q = (x, y, z, 0))) := fun x y z => by rw [htB, hQ]
  -- the state behind the bit
  have mid : ∃ υ, F_X0_note_0 (nI (cd Q)) (nI n) (nI (cd v)) τ = F_X0_note_51 (nI (cd Q)) (nI n) (nI (cd v)) υ ∧ υ.1 73 0 = τ.1 73 0 ∧ υ.1 73 1 = nI (S3 (htB K i n (c + 1))) ∧ (∀ x y z, x ≤ 9 → y ≤ 9 → z ≤ 9 → (υ.2 76 ((x + 16 * y + 256 * z) / 64)).toBitVec.getLsbD ((x + 16 * y + 256 * z) % 64) = htB K i n (c + 1) x y z) ∧ υ.1 74 = τ.1 74 ∧ υ.1 75 = τ.1 75 ∧ BF τ υ := by
    have hr : inR (nI (cd Q / 64)) 64 := inR_t (by omega) (by decide)
    have hfun : htB K i n (c + 1) = fun x y z => htB K i n c x y z || decide ((Q.1, Q.2.1, Q.2.2.1, (0 : Nat)) = (x, y, z, (0 : Nat))) := by
      funext x y z; rw [hs, hev]
    unfold F_X0_note_0
    rw [e63, e6, hM, bd_e, bd_e]
    simp only [ck_t hr]
    rw [TN_nI (by omega)]
    by_cases hh : htB K i n c Q.1 Q.2.1 Q.2.2.1 = true
    · refine ⟨τ, ?_, rfl, ?_, fun x y z hx hy hz => ?_, rfl, rfl, BF.rf τ⟩
      · rw [if_neg (fun q => ?_)]
        have := (and0 hj64 hbit).mp ((lgEQ0 _).mp q)
        rw [hseen, hh] at this; cases this
      · rw [b2, hfun, S3_old hh]
      · rw [b3 x y z hx hy hz, hs]
        by_cases q : Q = (x, y, z, 0)
        · rw [q] at hh; simp [hh]
        · simp [q]
    · have hh' : htB K i n c Q.1 Q.2.1 Q.2.2.1 = false := by simpa using hh
      refine ⟨sI (sJ τ 76 (cd Q / 64) (τ.2 76 (cd Q / 64) ||| M)) 73 1 (nI (S3 (htB K i n (c + 1)))), ?_, ?_, sI_at _ _ _ _, fun x y z hx hy hz => ?_, ?_, ?_, ?_⟩
      · rw [if_pos ((lgEQ0 _).mpr ((and0 hj64 hbit).mpr (by rw [hseen]; exact hh'))), bd_e, bd_e, sJ_1, b2, show nI (S3 (htB K i n c)) + 1 = nI (S3 (htB K i n c) + 1) from nI_1 _, hfun, S3_new (by omega) (by omega) (by omega) hh']
      · rw [sI_o (by decide), sJ_1]
      · rw [sI_2, sJ_eq]
        unfold vp_updL
        by_cases hwd : (x + 16 * y + 256 * z) / 64 = cd Q / 64
        · rw [if_pos hwd, or_bit hj64 hbit, ← hwd, b3 x y z hx hy hz, hs]
          congr 1
          apply decide_eq_decide.mpr
          constructor
          · intro hm
            have : x + 16 * y + 256 * z = cd Q := by omega
            rw [hcd] at this
            rw [← hev]
            have e1 : Q.1 = x := by omega
            have e2 : Q.2.1 = y := by omega
            have e3 : Q.2.2.1 = z := by omega
            rw [e1, e2, e3]
          · intro hm; rw [hcd, hm]
        · rw [if_neg hwd, b3 x y z hx hy hz, hs]
          have : ¬ Q = (x, y, z, 0) := fun q => hwd (by rw [hcd, q])
          simp [this]
      · rw [sI_ne (by decide), sJ_1]
      · rw [sI_ne (by decide), sJ_1]
      · exact ⟨fun d h1 h2 h3 => by rw [sI_ne h1, sJ_1], fun d h1 => by rw [sI_2, sJ_ne h1]⟩
  obtain ⟨υ, u1, u2, u3, u4, u5, u6, u7⟩ := mid
  rw [u1]
  unfold F_X0_note_51 F_X0_note_78
  have l1 := cd_lt okq
  have l2 := cd_lt hv
  rw [if_nI_eq (by omega) (by omega)]
  by_cases hm : cd Q = cd v
  · have hmv : Q = v := cd_inj okq hv hm
    have hmt : mtB K i n v c = true := by unfold mtB; rw [hQ]; exact decide_eq_true hmv
    have hct : ctN K i n v (c + 1) = ctN K i n v c + 1 := by rw [ctN_s, hmt]; rfl
    rw [if_pos hm, u2, b1, if_nI_z (by omega)]
    by_cases hz : ctN K i n v c = 0
    · rw [if_pos hz, ck_t (by
        unfold cpR
        rw [show (0 : Int32).toNatClampNeg = 0 from rfl, TN_nI (by omega)]
        exact ⟨by decide, by decide, nI_pos (by omega), by omega, by omega⟩), bd_e, bd_e]
      refine ⟨sI (cI υ 75 0 74 0 (nI n)) 73 0 (nI (ctN K i n v (c + 1))), ?_, ⟨sI_at _ _ _ _, ?_, fun x y z hx hy hz => u4 x y z hx hy hz, fun _ j hj => ?_⟩, ?_, ?_⟩
      · rw [cI_ne (by decide), u2, b1, show nI (ctN K i n v c) + 1 = nI (ctN K i n v c + 1) from nI_1 _, hct]
      · rw [sI_o (by decide), cI_ne (by decide), u3]
      · rw [sI_ne (by decide), cI_eq, show (0 : Int32).toNatClampNeg = 0 from rfl, TN_nI (by omega)]
        have := cpy_in (f := υ.1 75) (g := υ.1 74) (i := 0) (j := 0) hj
        rw [Nat.zero_add] at this
        rw [this, u6, hrow j hj, lmN, if_neg (by omega)]
      · refine u7.tr ⟨fun d h1 h2 h3 => ?_, fun d h1 => rfl⟩
        rw [sI_ne h1, cI_ne h2]
      · rw [sI_ne (by decide), cI_ne (by decide), u6]
    · rw [if_neg hz, bd_e]
      refine ⟨sI υ 73 0 (nI (ctN K i n v (c + 1))), ?_, ⟨sI_at _ _ _ _, ?_, fun x y z hx hy hz => u4 x y z hx hy hz, fun _ j hj => ?_⟩, ?_, ?_⟩
      · rw [show nI (ctN K i n v c) + 1 = nI (ctN K i n v c + 1) from nI_1 _, hct]
      · rw [sI_o (by decide), u3]
      · rw [sI_ne (by decide), u5, b4 (by omega) j hj, lmN, if_pos (by omega)]
      · exact u7.tr ⟨fun d h1 h2 h3 => sI_ne h1, fun d h1 => rfl⟩
      · rw [sI_ne (by decide), u6]
  · have hmv : ¬ Q = v := fun q => hm (by rw [q])
    have hmt : mtB K i n v c = false := by unfold mtB; rw [hQ]; exact decide_eq_false hmv
    have hct : ctN K i n v (c + 1) = ctN K i n v c := by rw [ctN_s, hmt]; rfl
    rw [if_neg hm]
    refine ⟨υ, rfl, ⟨by rw [u2, b1, hct], u3, u4, fun hp j hj => ?_⟩, u7, u6⟩
    rw [hct] at hp
    rw [u5, b4 hp j hj, lmN, if_pos hp]
/-- all codes below a prefix -/
theorem batheI {K : CS} {i n : Nat} {v : QD} (hK : okK K) (hi : i < kS K) (hn : n ≤ 5) (hv : okQ v) (hw : v.2.2.2 = 0) : ∀ (r d p k : Nat) (τ : gS), d + r = n → r < k → p * kD K ^ r + kD K ^ r ≤ 2000 → SC 10 τ K → BP K i n v (p * kD K ^ r) τ → (∀ j, j < d → τ.1 75 j = nI (p / kD K ^ (d - 1 - j) % kD K)) →
    ∃ τ', F_X0_bathe k (nI i) (nI (cd (shQ K i d p))) (nI d) (nI n) (nI (cd v)) τ = some τ' ∧ BP K i n v ((p + 1) * kD K ^ r) τ' ∧ BF τ τ' ∧ (∀ j, j < d → τ'.1 75 j = τ.1 75 j) := by
  have h4 : kD K ≤ 4 := hK.2.1
  have hD : 0 < kD K := by have := hK.2.2.2.1; omega
  intro r
  induction r with
  | zero =>
    intro d p k τ hd hk hp hS hB hrow
    obtain ⟨k, rfl⟩ : ∃ z, k = z + 1 := ⟨k - 1, by omega⟩
    have hdn : d = n := by omega
    subst hdn
    rw [Nat.pow_zero, Nat.mul_one] at hB
    rw [Nat.pow_zero] at hp
    obtain ⟨τ', n1, n2, n3, n4⟩ := noteI (by omega) hv hw (by omega) hB hrow
    refine ⟨τ', ?_, by rw [Nat.pow_zero, Nat.mul_one]; exact n2, n3, fun j hj => by rw [n4]⟩
    rw [F_X0_bathe, F_X0_bathe_0, if_pos (nI_le (Nat.le_refl _) (by omega)), F_X0_bathe_13, n1, ob_s]
  | succ r ih =>
    intro d p k τ hd hk hp hS hB hrow
    obtain ⟨k, rfl⟩ : ∃ z, k = z + 1 := ⟨k - 1, by omega⟩
    rw [F_X0_bathe, F_X0_bathe_0, if_neg (nI_ge (by omega) (by omega)), if_pos (by rw [L5]; exact nI_lt (by omega) (by decide))]
    have hpow : kD K ^ (r + 1) = kD K * kD K ^ r := by rw [Nat.pow_succ, Nat.mul_comm]
    have hpos : 0 < kD K ^ r := Nat.pow_pos hD
    have hcode : ∀ e, p * kD K ^ (r + 1) + e * kD K ^ r = (p * kD K + e) * kD K ^ r := by
      intro e; rw [hpow, Nat.add_mul, Nat.mul_assoc]
    have key : ∀ (m e f : Nat) (υ : gS), e + m = kD K → m < f → SC 10 υ K → BP K i n v ((p * kD K + e) * kD K ^ r) υ → BF τ υ → (∀ j, j < d → υ.1 75 j = τ.1 75 j) →
        ∃ τ', F_X0_bathe_26 (F_X0_bathe k) f (nI i) (nI (cd (shQ K i d p))) (nI d) (nI n) (nI (cd v)) (nI e) υ = some τ' ∧ BP K i n v ((p + 1) * kD K ^ (r + 1)) τ' ∧ BF τ τ' ∧ (∀ j, j < d → τ'.1 75 j = τ.1 75 j) := by
      intro m
      induction m with
      | zero =>
        intro e f υ he hf hSυ hBυ hFυ hrυ
        obtain ⟨f, rfl⟩ : ∃ z, f = z + 1 := ⟨f - 1, by omega⟩
        refine ⟨υ, ?_, ?_, hFυ, hrυ⟩
        · rw [F_X0_bathe_26, hSυ.2.1, if_pos (nI_le (by omega) (by omega))]
        · rw [show (p + 1) * kD K ^ (r + 1) = (p * kD K + e) * kD K ^ r by rw [hpow, show e = kD K by omega, Nat.add_mul, Nat.add_mul, Nat.one_mul, Nat.mul_assoc]]
          exact hBυ
      | succ m ihm =>
        intro e f υ he hf hSυ hBυ hFυ hrυ
        obtain ⟨f, rfl⟩ : ∃ z, f = z + 1 := ⟨f - 1, by omega⟩
        have he' : e < kD K := by omega
        let υ1 := sI υ 75 d (nI e)
        have hS1 : SC 10 υ1 K := hSυ.keep (sI_ne (by decide)) (sI_ne (by decide)) (sI_ne (by decide)) (sI_ne (by decide))
        rw [F_X0_bathe_26, hSυ.2.1, if_neg (nI_ge he' (by omega)), ck_t (inR_t (by omega) (by decide)), TN_nI (by omega), bd_e, dyedI hS1 hK hi he' (shQ_ok K i d p), ob_s, show nI d + 1 = nI (d + 1) from nI_1 d]
        have hsh : dyQ K i e (shQ K i d p) = shQ K i (d + 1) (p * kD K + e) := by
          show _ = dyQ K i ((p * kD K + e) % kD K) (shQ K i d ((p * kD K + e) / kD K))
          rw [Nat.mul_comm p, Nat.mul_add_mod, Nat.mod_eq_of_lt he', Nat.mul_add_div hD, Nat.div_eq_of_lt he', Nat.add_zero]
        rw [hsh]
        have hB1 : BP K i n v ((p * kD K + e) * kD K ^ r) υ1 := by
          obtain ⟨g1, g2, g3, g4⟩ := hBυ
          refine ⟨?_, ?_, fun x y z hx hy hz => g3 x y z hx hy hz, fun hp j hj => ?_⟩
          · show (sI υ 75 d _).1 73 0 = _; rw [sI_ne (by decide)]; exact g1
          · show (sI υ 75 d _).1 73 1 = _; rw [sI_ne (by decide)]; exact g2
          · show (sI υ 75 d _).1 74 j = _; rw [sI_ne (by decide)]; exact g4 hp j hj
        have hrow1 : ∀ j, j < d + 1 → υ1.1 75 j = nI ((p * kD K + e) / kD K ^ (d + 1 - 1 - j) % kD K) := by
          intro j hj
          show (sI υ 75 d _).1 75 j = _
          by_cases hjd : j = d
          · subst hjd
            rw [sI_at, show j + 1 - 1 - j = 0 by omega, Nat.pow_zero, Nat.div_one, Nat.mul_comm p, Nat.mul_add_mod, Nat.mod_eq_of_lt he']
          · rw [sI_o hjd, hrυ j (by omega), hrow j (by omega), show d + 1 - 1 - j = (d - 1 - j) + 1 by omega, Nat.pow_succ, Nat.mul_comm (kD K ^ _), ← Nat.div_div_eq_div_mul, Nat.mul_comm p, Nat.mul_add_div hD, Nat.div_eq_of_lt he', Nat.add_zero]
        have hbound : (p * kD K + e) * kD K ^ r + kD K ^ r ≤ 2000 := by
          have h1 : (p * kD K + e) * kD K ^ r + kD K ^ r = (p * kD K + (e + 1)) * kD K ^ r := by rw [← Nat.add_assoc, Nat.add_mul (p * kD K + e), Nat.one_mul]
          have h2 : (p * kD K + (e + 1)) * kD K ^ r ≤ (p * kD K + kD K) * kD K ^ r := Nat.mul_le_mul_right _ (by omega)
          have h3 : (p * kD K + kD K) * kD K ^ r = p * kD K ^ (r + 1) + kD K ^ (r + 1) := by rw [hpow, Nat.add_mul, Nat.mul_assoc]
          omega
        obtain ⟨τ1, i1, i2, i3, i4⟩ := ih (d + 1) (p * kD K + e) k υ1 (by omega) (by omega) hbound hS1 hB1 hrow1
        show ∃ τ', ob (F_X0_bathe k (nI i) _ (nI (d + 1)) (nI n) (nI (cd v)) υ1) _ = _ ∧ _
        rw [i1, ob_s, bd_e, show nI e + 1 = nI (e + 1) from nI_1 e]
        have hF1 : BF υ υ1 := ⟨fun c h1 h2 h3 => sI_ne h3, fun c h1 => rfl⟩
        have hFF := hF1.tr i3
        refine ihm (e + 1) f τ1 (by omega) (by omega) (hSυ.keep (hFF.1 _ (by decide) (by decide) (by decide)) (hFF.1 _ (by decide) (by decide) (by decide)) (hFF.1 _ (by decide) (by decide) (by decide)) (hFF.1 _ (by decide) (by decide) (by decide))) (by rw [show p * kD K + (e + 1) = p * kD K + e + 1 by omega]; exact i2) (hFυ.tr hFF) (fun j hj => ?_)
        rw [i4 j (by omega)]
        show (sI υ 75 d _).1 75 j = _
        rw [sI_o (by omega), hrυ j hj]
    have := key (kD K) 0 fu τ (by omega) (by unfold fu; omega) hS (by rw [Nat.add_zero, Nat.mul_assoc, ← hpow]; exact hB) (BF.rf τ) (fun _ _ => rfl)
    exact this
