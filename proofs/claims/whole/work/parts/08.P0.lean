/-! PURE 0: numbers, binds, states -/
theorem ck_t {α : Type} {P : Prop} [Decidable P] (h : P) (x : Option α) : ck P x = x := if_pos h
theorem ob_s {α β : Type} (a : α) (f : α → Option β) : ob (some a) f = f a := rfl
theorem ob2_s {α γ β : Type} (a : α) (b : γ) (f : α → γ → Option β) : ob2 (some (a, b)) f = f a b := rfl
theorem bd_e {α β : Type} (x : α) (f : α → β) : bd x f = f x := rfl
theorem ob_eq {α β : Type} {x : Option α} {a : α} (h : x = some a) (f : α → Option β) : ob x f = f a := by rw [h]; rfl
theorem ob2_eq {α γ β : Type} {x : Option (α × γ)} {a : α} {b : γ} (h : x = some (a, b)) (f : α → γ → Option β) : ob2 x f = f a b := by rw [h]; rfl
theorem TN_nI {n : Nat} (h : n < 2 ^ 31) : Int32.toNatClampNeg (nI n) = n := nI_clamp h
theorem inR_nI {i n : Nat} (hi : i < 2 ^ 31) : inR (nI i) n ↔ i < n := by
  unfold inR
  rw [TN_nI hi]
  constructor
  · intro h; exact Nat.lt_of_not_le (fun q => h (Or.inr q))
  · intro h q
    rcases q with q | q
    · exact nI_pos hi q
    · omega
theorem inR_t {i n : Nat} (h : i < n) (hn : n < 2 ^ 31) : inR (nI i) n := (inR_nI (by omega)).mpr h
theorem nI_or (a b : Nat) : nI a ||| nI b = nI (a ||| b) := by
  apply Int32.toBitVec_inj.mp
  show BitVec.ofNat 32 a ||| BitVec.ofNat 32 b = BitVec.ofNat 32 (a ||| b)
  rw [BitVec.ofNat_or]
theorem or_add {a b k : Nat} (h : a < 2 ^ k) : a ||| (b * 2 ^ k) = a + b * 2 ^ k := by
  rw [Nat.or_comm, Nat.mul_comm b, ← Nat.two_pow_add_eq_or_of_lt h, Nat.add_comm]
theorem nI_m1 {n : Nat} (h : 1 ≤ n) : nI n + (-1) = nI (n - 1) := by
  obtain ⟨k, rfl⟩ : ∃ k, n = k + 1 := ⟨n - 1, by omega⟩
  exact pk_m1 k
theorem nI_subc {n k : Nat} {z : Int32} (hz : z = - nI k) (h : k ≤ n) : nI n + z = nI (n - k) := by
  rw [hz, ← Int32.sub_eq_add_neg, pk_sub h]
theorem shl_c {a j k : Nat} {s : Int32} (hs : (s.toBitVec.smod 32).toNat = k) (h : a * 2 ^ k < 2 ^ 32) : nI a <<< s = nI (a * 2 ^ k) := pk_shlN s k hs h
theorem mx_nI {a b : Nat} (ha : a < 2 ^ 31) (hb : b < 2 ^ 31) : mx (nI a) (nI b) = nI (max a b) := by
  unfold mx
  by_cases h : a < b
  · rw [if_pos ((nI_ltI ha hb).mpr h), Nat.max_eq_right (Nat.le_of_lt h)]
  · rw [if_neg (fun q => h ((nI_ltI ha hb).mp q)), Nat.max_eq_left (Nat.le_of_not_lt h)]
theorem mn_nI {a b : Nat} (ha : a < 2 ^ 31) (hb : b < 2 ^ 31) : mn (nI a) (nI b) = nI (min a b) := by
  unfold mn
  by_cases h : b < a
  · rw [if_pos ((nI_ltI hb ha).mpr h), Nat.min_eq_right (Nat.le_of_lt h)]
  · rw [if_neg (fun q => h ((nI_ltI hb ha).mp q)), Nat.min_eq_left (Nat.le_of_not_lt h)]
theorem if_nI_le {α : Type} {a b : Nat} {_i : Decidable (nI a ≤ nI b)} (ha : a < 2 ^ 31) (hb : b < 2 ^ 31) (x y : α) : (if nI a ≤ nI b then x else y) = if a ≤ b then x else y := by
  by_cases h : a ≤ b
  · rw [if_pos ((nI_leI ha hb).mpr h), if_pos h]
  · rw [if_neg (fun q => h ((nI_leI ha hb).mp q)), if_neg h]
theorem if_nI_lt {α : Type} {a b : Nat} {_i : Decidable (nI a < nI b)} (ha : a < 2 ^ 31) (hb : b < 2 ^ 31) (x y : α) : (if nI a < nI b then x else y) = if a < b then x else y := by
  by_cases h : a < b
  · rw [if_pos ((nI_ltI ha hb).mpr h), if_pos h]
  · rw [if_neg (fun q => h ((nI_ltI ha hb).mp q)), if_neg h]
theorem if_nI_eq {α : Type} {a b : Nat} {_i : Decidable (nI a = nI b)} (ha : a < 2 ^ 31) (hb : b < 2 ^ 31) (x y : α) : (if nI a = nI b then x else y) = if a = b then x else y := by
  by_cases h : a = b
  · rw [if_pos ((nI_eq ha hb).mpr h), if_pos h]
  · rw [if_neg (fun q => h ((nI_eq ha hb).mp q)), if_neg h]
theorem if_nI_z {α : Type} {a : Nat} {_i : Decidable (nI a = 0)} (ha : a < 2 ^ 31) (x y : α) : (if nI a = 0 then x else y) = if a = 0 then x else y := by
  by_cases h : a = 0
  · rw [if_pos (by rw [h]; rfl), if_pos h]
  · rw [if_neg (nI_ne0 (by omega) ha), if_neg h]
theorem L0 : (0 : Int32) = nI 0 := rfl
theorem L1 : (1 : Int32) = nI 1 := rfl
theorem L2 : (2 : Int32) = nI 2 := rfl
theorem L3 : (3 : Int32) = nI 3 := rfl
theorem L4 : (4 : Int32) = nI 4 := rfl
theorem L5 : (5 : Int32) = nI 5 := rfl
theorem L6 : (6 : Int32) = nI 6 := rfl
theorem L7 : (7 : Int32) = nI 7 := rfl
theorem L8 : (8 : Int32) = nI 8 := rfl
theorem L9 : (9 : Int32) = nI 9 := rfl
theorem L10 : (10 : Int32) = nI 10 := rfl
theorem L11 : (11 : Int32) = nI 11 := rfl
theorem L20 : (20 : Int32) = nI 20 := rfl
theorem L23 : (23 : Int32) = nI 23 := rfl
theorem L24 : (24 : Int32) = nI 24 := rfl
theorem L32 : (32 : Int32) = nI 32 := rfl
/-! states -/
theorem s1_1 (σ : gS) (c : Nat) (f : Nat → Int32) (d : Nat) : (s1 σ c f).1 d = if d = c then f else σ.1 d := rfl
theorem s1_2 (σ : gS) (c : Nat) (f : Nat → Int32) : (s1 σ c f).2 = σ.2 := rfl
theorem s2_1 (σ : gS) (c : Nat) (g : Nat → Int64) : (s2 σ c g).1 = σ.1 := rfl
theorem s2_2 (σ : gS) (c : Nat) (g : Nat → Int64) (d : Nat) : (s2 σ c g).2 d = if d = c then g else σ.2 d := rfl
theorem s1_eq (σ : gS) (c : Nat) (f : Nat → Int32) : (s1 σ c f).1 c = f := if_pos rfl
theorem s1_ne {σ : gS} {c d : Nat} {f : Nat → Int32} (h : d ≠ c) : (s1 σ c f).1 d = σ.1 d := if_neg h
theorem s2_eq (σ : gS) (c : Nat) (f : Nat → Int64) : (s2 σ c f).2 c = f := if_pos rfl
theorem s2_ne {σ : gS} {c d : Nat} {f : Nat → Int64} (h : d ≠ c) : (s2 σ c f).2 d = σ.2 d := if_neg h
theorem s1_s1 (σ : gS) (c : Nat) (f g : Nat → Int32) : s1 (s1 σ c f) c g = s1 σ c g := by
  unfold s1
  refine Prod.ext ?_ rfl
  funext d
  by_cases h : d = c <;> simp [h]
theorem s2_s2 (σ : gS) (c : Nat) (f g : Nat → Int64) : s2 (s2 σ c f) c g = s2 σ c g := by
  unfold s2
  refine Prod.ext rfl ?_
  funext d
  by_cases h : d = c <;> simp [h]
theorem s1_id (σ : gS) (c : Nat) : s1 σ c (σ.1 c) = σ := by
  unfold s1
  refine Prod.ext ?_ rfl
  funext d
  by_cases h : d = c <;> simp [h]
theorem s2_id (σ : gS) (c : Nat) : s2 σ c (σ.2 c) = σ := by
  unfold s2
  refine Prod.ext rfl ?_
  funext d
  by_cases h : d = c <;> simp [h]
theorem sI_s1 (σ : gS) (c k : Nat) (v : Int32) : sI σ c k v = s1 σ c (upd (σ.1 c) k v) := rfl
theorem sJ_s2 (σ : gS) (c k : Nat) (v : Int64) : sJ σ c k v = s2 σ c (vp_updL (σ.2 c) k v) := rfl
theorem sI_1 (σ : gS) (c k : Nat) (v : Int32) (d j : Nat) : (sI σ c k v).1 d j = if d = c ∧ j = k then v else σ.1 d j := by
  show (if d = c then upd (σ.1 c) k v else σ.1 d) j = _
  by_cases h : d = c
  · subst h; by_cases hj : j = k <;> simp [upd, hj]
  · simp [h]
theorem sI_2 (σ : gS) (c k : Nat) (v : Int32) : (sI σ c k v).2 = σ.2 := rfl
theorem sI_ne {σ : gS} {c k d : Nat} {v : Int32} (h : d ≠ c) : (sI σ c k v).1 d = σ.1 d := if_neg h
theorem sI_eq (σ : gS) (c k : Nat) (v : Int32) : (sI σ c k v).1 c = upd (σ.1 c) k v := if_pos rfl
theorem sI_at (σ : gS) (c k : Nat) (v : Int32) : (sI σ c k v).1 c k = v := by rw [sI_eq]; simp [upd]
theorem sI_o {σ : gS} {c k j : Nat} {v : Int32} (h : j ≠ k) : (sI σ c k v).1 c j = σ.1 c j := by rw [sI_eq]; simp [upd, h]
theorem sJ_1 (σ : gS) (c k : Nat) (v : Int64) : (sJ σ c k v).1 = σ.1 := rfl
theorem sJ_ne {σ : gS} {c k d : Nat} {v : Int64} (h : d ≠ c) : (sJ σ c k v).2 d = σ.2 d := if_neg h
theorem sJ_eq (σ : gS) (c k : Nat) (v : Int64) : (sJ σ c k v).2 c = vp_updL (σ.2 c) k v := if_pos rfl
theorem cI_ne {σ : gS} {c c1 d : Nat} {i j n : Int32} (h : d ≠ c1) : (cI σ c i c1 j n).1 d = σ.1 d := if_neg h
theorem cI_2 (σ : gS) (c c1 : Nat) (i j n : Int32) : (cI σ c i c1 j n).2 = σ.2 := rfl
theorem cI_eq (σ : gS) (c c1 : Nat) (i j n : Int32) : (cI σ c i c1 j n).1 c1 = va_cpy (σ.1 c) (σ.1 c1) i.toNatClampNeg j.toNatClampNeg n.toNatClampNeg := if_pos rfl
theorem cJ_ne {σ : gS} {c c1 d : Nat} {i j n : Int32} (h : d ≠ c1) : (cJ σ c i c1 j n).2 d = σ.2 d := if_neg h
theorem cJ_1 (σ : gS) (c c1 : Nat) (i j n : Int32) : (cJ σ c i c1 j n).1 = σ.1 := rfl
theorem cJ_eq (σ : gS) (c c1 : Nat) (i j n : Int32) : (cJ σ c i c1 j n).2 c1 = va_cpy (σ.2 c) (σ.2 c1) i.toNatClampNeg j.toNatClampNeg n.toNatClampNeg := if_pos rfl
/-! a square: how much of three colours, wax -/
abbrev QD : Type := Nat × Nat × Nat × Nat
def okQ (q : QD) : Prop := q.1 ≤ 9 ∧ q.2.1 ≤ 9 ∧ q.2.2.1 ≤ 9 ∧ q.2.2.2 ≤ 3
def cd (q : QD) : Nat := q.1 + 16 * q.2.1 + 256 * q.2.2.1 + 4096 * q.2.2.2
def cp (q : QD) (j : Nat) : Nat := if j = 0 then q.1 else if j = 1 then q.2.1 else q.2.2.1
theorem cd_lt {q : QD} (h : okQ q) : cd q < 16384 := by unfold cd; unfold okQ at h; omega
theorem amt {q : QD} (h : okQ q) {j : Nat} (hj : j < 3) : F_X9_amountOf_0 (nI (cd q)) (nI j) = nI (cp q j) := by
  have hc := cd_lt h
  unfold F_X9_amountOf_0
  have key : ∀ k, ((nI j * 4 &&& (31 : Int32)).toBitVec.smod 32).toNat = k → cd q / 2 ^ k % 2 ^ 4 = cp q j → (nI (cd q) >>> (nI j * 4 &&& (31 : Int32))) &&& 15 = nI (cp q j) := by
    intro k hk he
    rw [pk_shrN (by omega) _ k hk, pk_andN (by have := Nat.div_le_self (cd q) (2 ^ k); omega) 4 (by decide), he]
  unfold okQ at h
  have h3 : j = 0 ∨ j = 1 ∨ j = 2 := by omega
  rcases h3 with rfl | rfl | rfl
  · exact key 0 (by decide) (by unfold cd cp; simp; omega)
  · exact key 4 (by decide) (by unfold cd cp; simp; omega)
  · exact key 8 (by decide) (by unfold cd cp; simp; omega)
theorem waxI {q : QD} (h : okQ q) : F_X9_waxIn_0 (nI (cd q)) = nI q.2.2.2 := by
  have hc := cd_lt h
  unfold F_X9_waxIn_0
  rw [pk_shrN (by omega) _ 12 (by decide)]
  congr 1
  unfold okQ at h; unfold cd; omega
theorem wwax {q : QD} (h : okQ q) {w : Nat} (hw : w ≤ 3) : F_X9_withWax_0 (nI (cd q)) (nI w) = nI (cd (q.1, q.2.1, q.2.2.1, w)) := by
  have hc := cd_lt h
  unfold F_X9_withWax_0
  rw [pk_andN (by omega) 12 (by decide), pk_shlN _ 12 (by decide) (by omega), nI_or, or_add (Nat.mod_lt _ (by decide))]
  congr 1
  unfold okQ at h; unfold cd; simp; omega
theorem wmore (x : Nat) {j : Nat} (hj : j < 3) {a : Nat} (ha : a < 16) : F_X9_withMore_0 (nI x) (nI j) (nI a) = nI (x + a * 16 ^ j) := by
  unfold F_X9_withMore_0
  have key : ∀ k, ((nI j * 4 &&& (31 : Int32)).toBitVec.smod 32).toNat = k → 2 ^ k = 16 ^ j → k ≤ 8 → nI x + (nI a <<< (nI j * 4 &&& (31 : Int32))) = nI (x + a * 16 ^ j) := by
    intro k hk he h8
    have h2 : a * 2 ^ k < 2 ^ 32 := by
      have := Nat.pow_le_pow_right (n := 2) (by decide) h8
      have := Nat.mul_lt_mul_of_lt_of_le ha this (by decide)
      omega
    rw [pk_shlN _ k hk h2, nI_add, he]
  have h3 : j = 0 ∨ j = 1 ∨ j = 2 := by omega
  rcases h3 with rfl | rfl | rfl
  · exact key 0 (by decide) (by decide) (by decide)
  · exact key 4 (by decide) (by decide) (by decide)
  · exact key 8 (by decide) (by decide) (by decide)
theorem wless {x : Nat} {j : Nat} (hj : j < 3) (h : 16 ^ j ≤ x) : F_X9_withMore_0 (nI x) (nI j) (-1) = nI (x - 16 ^ j) := by
  unfold F_X9_withMore_0
  have h3 : j = 0 ∨ j = 1 ∨ j = 2 := by omega
  rcases h3 with rfl | rfl | rfl
  · exact nI_subc (by decide) h
  · exact nI_subc (by decide) h
  · exact nI_subc (by decide) h
theorem wsame (x : Nat) {j : Nat} (hj : j < 3) : F_X9_withMore_0 (nI x) (nI j) 0 = nI x := by
  have := wmore x hj (a := 0) (by decide)
  rw [Nat.zero_mul] at this
  exact this
