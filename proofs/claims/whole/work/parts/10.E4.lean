/-! THE LAW 4: the switch, the loop -/
set_option maxRecDepth 20000
section ZLOOP
variable {G : zM} {j : Nat} {σ : gS}
theorem z_switch (ho : zOk G) (hj : j + 7 ≤ zL G) (hI : Inv σ) (hk : ∀ τ, Inv τ → zAt G j 1232 [] τ) (x : Int32) : zAt G j 33 [.int (x &&& 31)] σ := by
  obtain ⟨k, h32, e⟩ := and31 x
  rw [e]
  have hc : k = 0 ∨ k = 1 ∨ k = 2 ∨ k = 3 ∨ k = 4 ∨ k = 5 ∨ k = 6 ∨ k = 7 ∨ k = 8 ∨ k = 9 ∨ k = 10 ∨ k = 11 ∨ k = 12 ∨ k = 13 ∨ k = 14 ∨ k = 15 ∨ k = 16 ∨ k = 17 ∨ k = 18 ∨ k = 19 ∨ k = 20 ∨ k = 21 ∨ k = 22 ∨ k = 23 ∨ k = 24 ∨ k = 25 ∨ k = 26 ∨ 27 ≤ k := by omega
  rcases hc with rfl | rfl | rfl | rfl | rfl | rfl | rfl | rfl | rfl | rfl | rfl | rfl | rfl | rfl | rfl | rfl | rfl | rfl | rfl | rfl | rfl | rfl | rfl | rfl | rfl | rfl | rfl | h
  · exact z_tin ho (nI 0) (off := 123) (tgt := 156) dL_33 (by decide) (by decide) (by decide) (by decide) (zc_0 ho hj hI hk)
  · exact z_tin ho (nI 1) (off := 146) (tgt := 179) dL_33 (by decide) (by decide) (by decide) (by decide) (zc_1 ho hj hI hk)
  · exact z_tin ho (nI 2) (off := 159) (tgt := 192) dL_33 (by decide) (by decide) (by decide) (by decide) (zc_2 ho hj hI hk)
  · exact z_tin ho (nI 3) (off := 192) (tgt := 225) dL_33 (by decide) (by decide) (by decide) (by decide) (zc_3 ho hj hI hk)
  · exact z_tin ho (nI 4) (off := 225) (tgt := 258) dL_33 (by decide) (by decide) (by decide) (by decide) (zc_4 ho hj hI hk)
  · exact z_tin ho (nI 5) (off := 258) (tgt := 291) dL_33 (by decide) (by decide) (by decide) (by decide) (zc_5 ho hj hI hk)
  · exact z_tin ho (nI 6) (off := 281) (tgt := 314) dL_33 (by decide) (by decide) (by decide) (by decide) (zc_6 ho hj hI hk)
  · exact z_tin ho (nI 7) (off := 324) (tgt := 357) dL_33 (by decide) (by decide) (by decide) (by decide) (zc_7 ho hj hI hk)
  · exact z_tin ho (nI 8) (off := 347) (tgt := 380) dL_33 (by decide) (by decide) (by decide) (by decide) (zc_8 ho hj hI hk)
  · exact z_tin ho (nI 9) (off := 360) (tgt := 393) dL_33 (by decide) (by decide) (by decide) (by decide) (zc_9 ho hj hI hk)
  · exact z_tin ho (nI 10) (off := 393) (tgt := 426) dL_33 (by decide) (by decide) (by decide) (by decide) (zc_10 ho hj hI hk)
  · exact z_tin ho (nI 11) (off := 416) (tgt := 449) dL_33 (by decide) (by decide) (by decide) (by decide) (zc_11 ho hj hI hk)
  · exact z_tin ho (nI 12) (off := 439) (tgt := 472) dL_33 (by decide) (by decide) (by decide) (by decide) (zc_12 ho hj hI hk)
  · exact z_tin ho (nI 13) (off := 472) (tgt := 505) dL_33 (by decide) (by decide) (by decide) (by decide) (zc_13 ho hj hI hk)
  · exact z_tin ho (nI 14) (off := 547) (tgt := 580) dL_33 (by decide) (by decide) (by decide) (by decide) (zc_14 ho hj hI hk)
  · exact z_tin ho (nI 15) (off := 580) (tgt := 613) dL_33 (by decide) (by decide) (by decide) (by decide) (zc_15 ho hj hI hk)
  · exact z_tin ho (nI 16) (off := 633) (tgt := 666) dL_33 (by decide) (by decide) (by decide) (by decide) (zc_16 ho hj hI hk)
  · exact z_tin ho (nI 17) (off := 676) (tgt := 709) dL_33 (by decide) (by decide) (by decide) (by decide) (zc_17 ho hj hI hk)
  · exact z_tin ho (nI 18) (off := 719) (tgt := 752) dL_33 (by decide) (by decide) (by decide) (by decide) (zc_18 ho hj hI hk)
  · exact z_tin ho (nI 19) (off := 742) (tgt := 775) dL_33 (by decide) (by decide) (by decide) (by decide) (zc_19 ho hj hI hk)
  · exact z_tin ho (nI 20) (off := 826) (tgt := 859) dL_33 (by decide) (by decide) (by decide) (by decide) (zc_20 ho hj hI hk)
  · exact z_tin ho (nI 21) (off := 889) (tgt := 922) dL_33 (by decide) (by decide) (by decide) (by decide) (zc_21 ho hj hI hk)
  · exact z_tin ho (nI 22) (off := 932) (tgt := 965) dL_33 (by decide) (by decide) (by decide) (by decide) (zc_22 ho hj hI hk)
  · exact z_tin ho (nI 23) (off := 1007) (tgt := 1040) dL_33 (by decide) (by decide) (by decide) (by decide) (zc_23 ho hj hI hk)
  · exact z_tin ho (nI 24) (off := 1070) (tgt := 1103) dL_33 (by decide) (by decide) (by decide) (by decide) (zc_24 ho hj hI hk)
  · exact z_tin ho (nI 25) (off := 1133) (tgt := 1166) dL_33 (by decide) (by decide) (by decide) (by decide) (zc_25 ho hj hI hk)
  · exact z_tin ho (nI 26) (off := 1176) (tgt := 1209) dL_33 (by decide) (by decide) (by decide) (by decide) (zc_26 ho hj hI hk)
  · exact z_tout ho (nI k) (tgt := 1232) dL_33 (Or.inr (by rw [nI_toInt (by omega)]; omega)) (by decide) (hk σ hI)
theorem z_sub7 {a : Nat} (h : a ≤ 3584) : (nI a - 7).toInt = (a : Int) - 7 := by
  rw [Int32.toInt_sub, nI_toInt (by omega), show (7 : Int32).toInt = 7 by decide]
  rw [Int.bmod_eq_of_le (by omega) (by omega)]
theorem z_loop (ho : zOk G) : ∀ (n j : Nat) (σ : gS), Inv σ → j ≤ zL G → zL G < j + 7 * n → zAt G j 18 [] σ
  | 0, j, σ, hI, h1, h2 => absurd h2 (by omega)
  | n + 1, j, σ, hI, h1, h2 => by
    have hL : zL G ≤ 3584 := by obtain ⟨⟨p, l, e, s, m, below, meth, c0⟩, X, b, L, xs⟩ := G; exact ho.2.2.2.2.2
    refine z_len ho dL_18 dL_19 dL_20 rfl ?_
    refine z_bip (v := 7) ho dL_21 rfl (by decide) ?_
    refine z_isub ho dL_23 rfl ?_
    refine z_gt (tgt := 1238) ho dL_24 (by decide) rfl (fun _ => z_end ho dL_1238 dL_1239) (fun hq => ?_)
    have hj : j + 7 ≤ zL G := by
      rw [Int32.lt_iff_toInt_lt, z_sub7 hL, nI_toInt (by omega)] at hq
      omega
    refine z_arg0 ho (by omega) dL_27 dL_28 dL_29 rfl ?_
    refine z_bip (v := 31) ho dL_30 rfl (by decide) ?_
    refine z_iand ho dL_32 rfl ?_
    exact z_switch ho hj hI (fun τ hτ => z_next ho dL_1232 dL_1235 (by decide) (z_loop ho n (j + 7) τ hτ hj (by omega))) _
end ZLOOP
