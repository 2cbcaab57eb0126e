/-! THE LAW 6: from its entry -/
set_option maxRecDepth 20000
theorem whole_start {p : Program} {e : Env} {s : State} {m : MethodId} {below : List Frame} {meth : Method} {c : Code} (l : Launch) {b L : Nat} {xs : Nat → Int32} (hL : L ≤ 3584) (C0 : lw_At p s m meth c b L xs) : W p l e room_1 s m #[Value.ref b] below meth c s.heap [] 0 0 (lw_Z below #[Value.ref b] s) (entryFrame m ([Value.ref b] : List Value).toArray 4) := by
  obtain ⟨hx, hb, hr, hml, hown, hts, hX, hbl, hlocks, hgv⟩ := id C0
  have htw : ∀ w ∈ WS, w.before #[Value.ref b] s = true := fun w hw => hts w (WS_good w hw).1
  obtain ⟨Y, hK⟩ := zs_K hts
  have hN := zs_N hts
  obtain ⟨z, hZ, hT⟩ := zs_Z (A := fun q : Nat => s.heap.size ≤ q) hts hgv (fun a h => Nat.not_le.mpr h)
  have hS : va_S (fun q : Nat => s.heap.size ≤ q) s.heap s.heap [] := va_S.rf
  have hP : va_P Y.1 vwCl [] s.heap := fun k q h => by simp at h
  have hD : va_D (fun q : Nat => s.heap.size ≤ q) [] := ⟨fun i j p q h => by simp at h, fun k q h => by simp at h⟩
  have hl := lv_entry ([.ref b]) (n := 4) (Nat.le_of_ble_eq_true rfl)
  rw [lg_entry_eq]
  generalize (lg_sl ([.ref b]) ++ List.replicate (4 - (lg_sl ([.ref b])).length) Slot.unset).toArray = ls at hl ⊢
  have hl : lv_has ls 4 [(0, .ref b)] := hl
  refine z_mk (Wk := W_X11 Y) hx hb hml hown htw hK hN hP hD hS kn_L_7 kt_X11 ml_L_9 (fun h0 => K_X11 l Y h0) (Nat.le_of_ble_eq_true rfl) (Nat.le_of_ble_eq_true rfl) ⟨Nat.le_of_ble_eq_true rfl, Nat.le_of_ble_eq_true rfl⟩ hl.1 dL_0 dL_3 dL_4 (fun h0 q H locs hP hD hS => ?_)
  refine lv_astore_n (lv' := [(1, .ref h0), (0, .ref b)]) hx hb dL_7 rfl hl (by decide) rfl (fun ls hl => ?_)
  refine z_mk (Wk := W_X12 Y) hx hb hml hown htw hK hN hP hD hS kn_L_10 kt_X12 ml_L_12 (fun h1 => K_X12 l Y h1) (Nat.le_of_ble_eq_true rfl) (Nat.le_of_ble_eq_true rfl) ⟨Nat.le_of_ble_eq_true rfl, Nat.le_of_ble_eq_true rfl⟩ hl.1 dL_8 dL_11 dL_12 (fun h1 q' H locs hP hD hS => ?_)
  refine lv_astore_n (lv' := [(2, .ref h1), (1, .ref h0), (0, .ref b)]) hx hb dL_15 rfl hl (by decide) rfl (fun ls hl => ?_)
  refine lv_iconst (v := 0) hx hb dL_16 (by decide) ?_
  refine lv_istore_n (lv' := [(3, .int 0), (2, .ref h1), (1, .ref h0), (0, .ref b)]) hx hb dL_17 rfl hl (by decide) rfl (fun ls hl => ?_)
  rw [List.nil_append, ← gw_start Y h0 h1 q q' z] at hP hD
  refine W.widen (k := 600000) (n := 7302249) (Nat.le_of_ble_eq_true rfl) (Nat.le_of_ble_eq_true rfl) ?_
  have hgA : ∀ q0, gA (X0 Y h0 h1 q q' z) q0 → s.heap.size ≤ q0 := fun q0 h => by
    obtain ⟨k, h1, h2⟩ := h
    rw [h2]
    exact hD.2 k _ (gw_get h1)
  exact z_loop (G := ((p, l, e, s, m, below, meth, c), X0 Y h0 h1 q q' z, b, L, xs)) ⟨C0, hK, fun i j hi hj e => hD.1 i j _ _ (gw_get hi) (gw_get hj) e, ⟨hZ.narrow hgA, hT.narrow hgA⟩, fun k hk => hD.2 k _ (gw_get hk), hL⟩ (L + 1) 0 σ00 inv_start (Nat.zero_le _) (by show L < 0 + 7 * (L + 1); omega) H locs ls (lv_sub hl [3, 2, 1, 0] rfl) hP hS
